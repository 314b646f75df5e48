/-! the line of the way: both loops -/
theorem way_go {F : Nat} (hF : 1000 ≤ F) {f : Nat → Int32} {e Lb : Nat} {sMo : MS} {N : Nat} {r0 : Nat → Int32} {s0 : MS} (pk : PK r0) (rp : RP s0 r0) (hN : (r0 5).toInt = N) (h10 : r0 10 = 1) : ∀ (d i n n2 : Nat) (R s R' M' : MS), i + d = 9 → d + 1 < n → d + 1 < n2 → f_X7_lookOn F 800 f R = some R' → WS f e Lb R' s M' sMo N i r0 s0 → LN3 F f e Lb (f_X7_readWay_6 F 800 f n (Int32.ofInt (i : Int)) 1 (Int32.ofInt (i : Int)) R s) (f_X11_wayLine_55 F n2 (Int32.ofInt (i : Int)) 1 M') sMo := by
  have N9 : N ≤ 9 := by have := pk.nu.1.2; omega
  have r05 : r0 5 = Int32.ofInt (N : Int) := by rw [← hN]; exact n_out _
  intro d
  induction d with
  | zero =>
    intro i n n2 R s R' M' hi hn hn2 hl h
    have : i = 9 := by omega
    subst this
    cases n with
    | zero => omega
    | succ n =>
      cases n2 with
      | zero => omega
      | succ n2 =>
        obtain ⟨h1, h2, h3, h4, h5, h6, h7⟩ := h
        have e4 := RD_46 h1.2.1
        have q5 : s.1 5 = Int32.ofInt (N : Int) := by rw [h6.2.1, rp.num 5 (by omega), r05]
        have r5 : M'.2.2.1 16 5 = Int32.ofInt (N : Int) := by rw [h6.1 5 (by omega), r05]
        rw [f_X7_readWay_6, if_neg (by decide), if_neg (by decide), hl, bd_some, f_X11_wayLine_55, if_neg (by decide)]
        rcases T_told hF h1.1 h1.2.1 h1.2.2 (NM_c (fun k _ g => h6.1 k g) h5) N9 r5 q5 with ⟨z, hz, t1, t2, t3⟩ | ⟨R2, M2, t1, t2, t3, t4⟩
        · have hb := wrS_13 M' 5 (M'.1 4)
          have w3 := wrong_e (F := F) 5 (M'.1 4) h1.2.2
          refine Or.inl (Or.inr ⟨faS R' 5 (R'.1 6), s, wrS M' 5 (M'.1 4), ?_, ?_, FX_t h7 (FX_w _ _ _), ?_⟩)
          · rw [bd_ok t1, if_neg (by decide)]
            unfold f_X7_readWay_35
            rw [fail_e]; rfl
          · rw [e4]; exact BAD_w _ _ _ _
          · rw [t3, bd_some, if_pos (show (Int32.ofInt (z : Int), M').2.1 13 = 0 from h1.2.2), if_pos (show Int32.ofInt ((9 : Nat) : Int) = 9 from rfl)]
            have w3' : f_X11_wrong F 5 ((Int32.ofInt (z : Int), M').2.1 4) (Int32.ofInt (z : Int), M').2 = some (wrS M' 5 (M'.1 4)) := w3
            rw [w3', bd_some, B_way86 hb]
            exact FT_r _
        · refine Or.inl (Or.inr ⟨R2, s, M2, by rw [bd_no t1], t3, FX_t h7 t4, ?_⟩)
          rw [t2, bd_some, if_neg (show ¬ (Int32.ofInt 0, M2).2.1 13 = 0 by show ¬ M2.1 13 = 0; rw [t3.1]; decide), B_way86 (s := (Int32.ofInt 0, M2).2) t3.1]
          exact FT_r _
  | succ d ih =>
    intro i n n2 R s R' M' hi hn hn2 hl h
    cases n with
    | zero => omega
    | succ n =>
      cases n2 with
      | zero => omega
      | succ n2 =>
        have hWS := h
        obtain ⟨h1, h2, h3, h4, h5, h6, h7⟩ := h
        have e4 := RD_46 h1.2.1
        have q5 : s.1 5 = Int32.ofInt (N : Int) := by rw [h6.2.1, rp.num 5 (by omega), r05]
        have r5 : M'.2.2.1 16 5 = Int32.ofInt (N : Int) := by rw [h6.1 5 (by omega), r05]
        rw [f_X7_readWay_6, if_neg (by decide), if_neg (by rw [z_9, n_lt _ _ (by omega) (by omega) (by omega) (by omega)]; omega), hl, bd_some, f_X11_wayLine_55, if_neg (by decide)]
        rcases T_told hF h1.1 h1.2.1 h1.2.2 (NM_c (fun k _ g => h6.1 k g) h5) N9 r5 q5 with ⟨z, hz, t1, t2, t3⟩ | ⟨R2, M2, t1, t2, t3, t4⟩
        · have t2' : f_X7_placeNamed F (1, R').2 800 f s = some (Int32.ofInt (z : Int)) := t2
          have ne9 : ¬ Int32.ofInt (i : Int) = 9 := by rw [z_9, n_eq _ _ (by omega) (by omega) (by omega) (by omega)]; omega
          rw [bd_ok t1, if_pos (by rw [z_9, n_lt _ _ (by omega) (by omega) (by omega) (by omega)]; omega), t2', bd_some, t3, bd_some, if_pos (show (Int32.ofInt (z : Int), M').2.1 13 = 0 from h1.2.2), if_neg ne9]
          -- what both do once the place stands
          have go : ∀ y : Nat, ((i = 0 ∧ y = 0) ∨ (∃ w u : Nat, 0 < i ∧ M'.2.2.1 16 (200 + (i - 1)) = Int32.ofInt (w : Int) ∧ w < N ∧ s.2.2.1 16 (i - 1) = Int32.ofInt (u : Int) ∧ u ≤ 40 * (i - 1) ∧ 0 < (M'.2.2.1 16 (38 + (9 * w + z))).toInt ∧ (M'.2.2.1 16 (38 + (9 * w + z))).toInt ≤ 40 ∧ (y : Int) = u + (M'.2.2.1 16 (38 + (9 * w + z))).toInt)) → LN3 F f e Lb (f_X7_readWay_140 F 800 f (f_X7_readWay_6 F 800 f n) (Int32.ofInt (i : Int)) (Int32.ofInt (i : Int)) (Int32.ofInt (i : Int)) (Int32.ofInt (y : Int)) R' (sA s 15 i (Int32.ofInt (z : Int)))) (f_X11_wayLine_135 F (f_X11_wayLine_55 F n2) (Int32.ofInt (i : Int)) (Int32.ofInt (z : Int)) M') sMo := by
            intro y hy
            have wi := WI_s h6 N9 (by omega) hz hy
            have C1 := CG_a h1 (200 + i) (Int32.ofInt (z : Int))
            have wn : WS f e Lb R' (sA (sA s 15 i (Int32.ofInt (z : Int))) 16 i (Int32.ofInt (y : Int))) (sA M' 16 (200 + i) (Int32.ofInt (z : Int))) sMo N (i + 1) r0 s0 := ⟨C1, h2, h3, h4, h5, by rw [sA_u]; exact wi, FX_t h7 (FX_a _ _ _)⟩
            obtain ⟨R2, M2, m1, m2, m3, m4, m5⟩ := N_next hF C1.1 C1.2.1
            have w2 := WS_k wn ⟨m3, FRd_w m4, m5⟩
            obtain ⟨v, v1, v2⟩ := T_sign (F := F) w2.1.1 w2.1.2.1 (c := 44) (Or.inl rfl)
            have v1' : f_X7_isSign F R2 800 f 44 = some (bi v) := v1
            have i1 : (i : Int) + 1 = ((i + 1 : Nat) : Int) := by omega
            have i200 : (200 : Int) + (i : Int) = ((200 + i : Nat) : Int) := by omega
            have z200 : (200 : Int32) = Int32.ofInt 200 := rfl
            unfold f_X7_readWay_140 f_X11_wayLine_135
            rw [n_gd _ _ _ (by omega) (by omega) (by omega), n_ix _ (by omega) (by omega), tn, lz_t, lz_t, m1, bd_some, v1', bd_some, lz_t, h1.2.2, if_pos rfl, z200, n_add, i200, n_gd _ _ _ (by omega) (by omega) (by omega), n_ix _ (by omega) (by omega), tn, lz_t, lz_t, m2, bd_some, z_1, n_add, i1]
            unfold f_X11_comma
            rw [w2.1.2.2, if_pos rfl]
            cases v with
            | false =>
              have n44 : ¬ M2.1 6 = 44 := fun g => by have := v2.2 g; exact absurd this (by decide)
              rw [if_neg n44, bd_some]
              have o := way_out (F := F) pk rp hN h10 (by omega) (by omega) w2
              cases n with
              | zero => omega
              | succ n =>
                cases n2 with
                | zero => omega
                | succ n2 =>
                  rw [f_X7_readWay_6, if_pos (show bi false = 0 from rfl), f_X11_wayLine_55]
                  exact o
            | true =>
              obtain ⟨R3, M3, o1, o2, o3, o4, o5⟩ := N_next hF w2.1.1 w2.1.2.1
              rw [if_pos (show M2.1 6 = 44 from v2.1 rfl), o2, bd_some, bd_some]
              exact ih (i + 1) n n2 R2 _ R3 M3 (by omega) (by omega) (by omega) o1 (WS_k w2 ⟨o3, FRd_w o4, o5⟩)
          unfold f_X7_readWay_81 f_X11_wayLine_86
          by_cases c : i = 0
          · subst c
            have le0 : Int32.ofInt ((0 : Nat) : Int) ≤ (0 : Int32) := by decide
            rw [if_pos le0, n_gd _ _ _ (by omega) (by omega) (by omega), n_ix _ (by omega) (by omega), tn, lz_t, if_pos le0, if_pos (show (Int32.ofInt (z : Int), M').2.1 13 = 0 from h1.2.2), if_pos le0]
            exact go 0 (Or.inl ⟨rfl, rfl⟩)
          · obtain ⟨w, w1, w2, w3⟩ := h6.2.2.2.1 (i - 1) (by omega)
            obtain ⟨u, u1, u2⟩ := h6.2.2.2.2.2.2.1 (i - 1) (by omega)
            have nle0 : ¬ Int32.ofInt (i : Int) ≤ (0 : Int32) := by rw [z_0, n_le _ _ (by omega) (by omega) (by omega) (by omega)]; omega
            have im : (i : Int) - 1 = ((i - 1 : Nat) : Int) := by omega
            have i199 : (200 : Int) + (i : Int) - 1 = ((200 + (i - 1) : Nat) : Int) := by omega
            have iw : (38 : Int) + 9 * (w : Int) + (z : Int) = ((38 + (9 * w + z) : Nat) : Int) := by omega
            have lw : (w : Int) * 9 + (z : Int) = ((9 * w + z : Nat) : Int) := by omega
            have z200 : (200 : Int32) = Int32.ofInt 200 := rfl
            have rr := pk.ro w z (by omega) (by omega)
            have er : M'.2.2.1 16 (38 + (9 * w + z)) = r0 (38 + (9 * w + z)) := h6.1 _ (by omega)
            obtain ⟨rv, hrv, rv1, rv2⟩ : ∃ v : Int, r0 (38 + (9 * w + z)) = Int32.ofInt v ∧ 0 ≤ v ∧ v ≤ 40 := ⟨_, n_out _, rr.1, rr.2.1⟩
            have s10 : s.2.2.1 10 (9 * w + z) = Int32.ofInt rv := by rw [h6.2.2.1 10 (by decide) (by decide), rp.pin _ (by omega), hrv]
            have m38 : M'.2.2.1 16 (38 + (9 * w + z)) = Int32.ofInt rv := by rw [er, hrv]
            have mrv : (M'.2.2.1 16 (38 + (9 * w + z))).toInt = rv := by rw [m38, n_toI _ (by omega) (by omega)]
            have k13 : M'.1 13 = Int32.ofInt 0 := h1.2.2
            by_cases cr : rv = 0
            · have hb := wrS_13 M' 7 (M'.1 4)
              have w7 : f_X11_wrong F (Int32.ofInt 7) (M'.1 4) M' = some (wrS M' 7 (M'.1 4)) := wrong_e (F := F) 7 (M'.1 4) h1.2.2
              refine Or.inl (Or.inr ⟨faS R' 7 (R'.1 6), s, wrS M' 7 (M'.1 4), ?_, ?_, FX_t h7 (FX_w _ _ _), ?_⟩)
              · unfold f_X7_readWay_74 f_X9_isRoad f_X9_pintsOf
                simp (disch := omega) only [z_0, z_1, z_2, z_3, z_4, z_5, z_6, z_7, z_8, z_9, z_10, z_11, z_12, z_14, z_18, z_20, z_22, z_24, z_32, z_38, z_40, z_41, z_44, z_48, z_49, z_57, z_59, z_60, z_63, z_65, z_74, z_75, z_81, z_97, z_99, z_104, z_115, z_119, z_122, z_200, z_209, z_210, z_219, z_228, z_255, z_300, z_369, z_999, z_65537, z_268435456, z_1000000000, n_nat, n_add, n_sub, n_mul, n_neg, n_lt, n_le, n_eq, n_ix, n_gd, n_nz, lz_t, bd_some, tn, Int.reduceToNat, tn_1, if_pos, if_neg, if_true, if_false, im, w3, lw, s10, fail_e]
                rfl
              · rw [e4]; exact BAD_w _ _ _ _
              · generalize hW : wrS M' 7 (M'.1 4) = W at *
                simp (disch := first | omega | simp only [sA_1, hb]) only [z_0, z_1, z_2, z_3, z_4, z_5, z_6, z_7, z_8, z_9, z_10, z_11, z_12, z_14, z_18, z_20, z_22, z_24, z_32, z_38, z_40, z_41, z_44, z_48, z_49, z_57, z_59, z_60, z_63, z_65, z_74, z_75, z_81, z_97, z_99, z_104, z_115, z_119, z_122, z_200, z_209, z_210, z_219, z_228, z_255, z_300, z_369, z_999, z_65537, z_268435456, z_1000000000, n_nat, n_add, n_sub, n_mul, n_neg, n_lt, n_le, n_eq, n_ix, n_gd, n_nz, lz_t, bd_some, tn, Int.reduceToNat, tn_1, if_pos, if_neg, if_true, if_false, k13, z200, i199, w2, iw, m38, w7, B_way135]
                exact FT_r _
            · obtain ⟨rn, rfl⟩ := toN rv1
              have g := go (u + rn) (Or.inr ⟨w, u, by omega, w2, w1, u2, u1, by rw [mrv]; omega, by rw [mrv]; omega, by rw [mrv]; omega⟩)
              have A : (if Int32.ofInt (i : Int) ≤ (0 : Int32) then (f_X7_readWay_81 F 800 f (f_X7_readWay_6 F 800 f n) (Int32.ofInt (i : Int)) (Int32.ofInt (i : Int)) (Int32.ofInt (z : Int)) R' s) else (gd (vpb (Int32.ofInt (i : Int) - (1 : Int32)) 9) <| lz (s.2.2.1 15 (Int32.ofInt (i : Int) - (1 : Int32)).toNatClampNeg) fun v10 => bd (f_X9_isRoad F s v10 (Int32.ofInt (z : Int))) fun o11 => if o11 = (0 : Int32) then (f_X7_readWay_74 F 800 f R' s) else (f_X7_readWay_81 F 800 f (f_X7_readWay_6 F 800 f n) (Int32.ofInt (i : Int)) (Int32.ofInt (i : Int)) (Int32.ofInt (z : Int)) R' s))) = f_X7_readWay_140 F 800 f (f_X7_readWay_6 F 800 f n) (Int32.ofInt (i : Int)) (Int32.ofInt (i : Int)) (Int32.ofInt (i : Int)) (Int32.ofInt ((u + rn : Nat) : Int)) R' (sA s 15 i (Int32.ofInt (z : Int))) := by
                have b16 : (sA s 15 i (Int32.ofInt (z : Int))).2.2.1 16 (i - 1) = Int32.ofInt (u : Int) := by rw [sA_n _ _ _ _ _ (by decide), u2]
                have b15 : (sA s 15 i (Int32.ofInt (z : Int))).2.2.1 15 (i - 1) = Int32.ofInt (w : Int) := by rw [sA_u, up_n _ _ _ _ (by omega), w3]
                have b10 : (sA s 15 i (Int32.ofInt (z : Int))).2.2.1 10 (9 * w + z) = Int32.ofInt (rn : Int) := by rw [sA_n _ _ _ _ _ (by decide), s10]
                have eu : (u : Int) + (rn : Int) = ((u + rn : Nat) : Int) := by omega
                unfold f_X7_readWay_81 f_X9_isRoad f_X9_pintsOf
                simp (disch := omega) only [z_0, z_1, z_2, z_3, z_4, z_5, z_6, z_7, z_8, z_9, z_10, z_11, z_12, z_14, z_18, z_20, z_22, z_24, z_32, z_38, z_40, z_41, z_44, z_48, z_49, z_57, z_59, z_60, z_63, z_65, z_74, z_75, z_81, z_97, z_99, z_104, z_115, z_119, z_122, z_200, z_209, z_210, z_219, z_228, z_255, z_300, z_369, z_999, z_65537, z_268435456, z_1000000000, n_nat, n_add, n_sub, n_mul, n_neg, n_lt, n_le, n_eq, n_ix, n_gd, n_nz, lz_t, bd_some, tn, Int.reduceToNat, tn_1, if_pos, if_neg, if_true, if_false, im, w3, lw, s10, b16, b15, b10, eu]
              have B : (if M'.1 13 = (0 : Int32) then (if Int32.ofInt (i : Int) ≤ (0 : Int32) then (f_X11_wayLine_135 F (f_X11_wayLine_55 F n2) (Int32.ofInt (i : Int)) (Int32.ofInt (z : Int)) M') else (gd (vpb (((200 : Int32) + Int32.ofInt (i : Int)) - (1 : Int32)) 300) <| lz (M'.2.2.1 16 (((200 : Int32) + Int32.ofInt (i : Int)) - (1 : Int32)).toNatClampNeg) fun v19 => gd (vpb (((38 : Int32) + ((9 : Int32) * v19)) + Int32.ofInt (z : Int)) 300) <| lz (M'.2.2.1 16 (((38 : Int32) + ((9 : Int32) * v19)) + Int32.ofInt (z : Int)).toNatClampNeg) fun v21 => if v21 = (0 : Int32) then (bd (f_X11_wrong F (7 : Int32) (M'.1 4) M') fun o23 => f_X11_wayLine_135 F (f_X11_wayLine_55 F n2) (Int32.ofInt (i : Int)) (Int32.ofInt (z : Int)) o23) else (f_X11_wayLine_135 F (f_X11_wayLine_55 F n2) (Int32.ofInt (i : Int)) (Int32.ofInt (z : Int)) M'))) else (f_X11_wayLine_135 F (f_X11_wayLine_55 F n2) (Int32.ofInt (i : Int)) (Int32.ofInt (z : Int)) M')) = f_X11_wayLine_135 F (f_X11_wayLine_55 F n2) (Int32.ofInt (i : Int)) (Int32.ofInt (z : Int)) M' := by
                simp (disch := omega) only [z_0, z_1, z_2, z_3, z_4, z_5, z_6, z_7, z_8, z_9, z_10, z_11, z_12, z_14, z_18, z_20, z_22, z_24, z_32, z_38, z_40, z_41, z_44, z_48, z_49, z_57, z_59, z_60, z_63, z_65, z_74, z_75, z_81, z_97, z_99, z_104, z_115, z_119, z_122, z_200, z_209, z_210, z_219, z_228, z_255, z_300, z_369, z_999, z_65537, z_268435456, z_1000000000, n_nat, n_add, n_sub, n_mul, n_neg, n_lt, n_le, n_eq, n_ix, n_gd, n_nz, lz_t, bd_some, tn, Int.reduceToNat, tn_1, if_pos, if_neg, if_true, if_false, k13, z200, i199, w2, iw, m38]
              rw [← A, ← B] at g
              exact g
        · refine Or.inl (Or.inr ⟨R2, s, M2, by rw [bd_no t1], t3, FX_t h7 t4, ?_⟩)
          rw [t2, bd_some, if_neg (show ¬ (Int32.ofInt 0, M2).2.1 13 = 0 by show ¬ M2.1 13 = 0; rw [t3.1]; decide), B_way86 (s := (Int32.ofInt 0, M2).2) t3.1]
          exact FT_r _
