/-! the line of a pump -/
theorem B_pump121 {F : Nat} {s : MS} {x y u : Int32} (h : s.1 13 = Int32.ofInt 1) : f_X11_pumpLine_121 F x y u s = some s := by
  unfold f_X11_pumpLine_121
  rw [B_after h, bd_some, h, if_neg (by decide)]
theorem B_pump110 {F : Nat} {s : MS} {x y u : Int32} (h : s.1 13 = Int32.ofInt 1) : f_X11_pumpLine_110 F x y u s = some s := by
  unfold f_X11_pumpLine_110
  rw [h, if_neg (by decide), B_pump121 h]
theorem B_pump45 {F : Nat} {s : MS} {x : Int32} (h : s.1 13 = Int32.ofInt 1) : f_X11_pumpLine_45 F x s = some s := by
  unfold f_X11_pumpLine_45
  rw [h, if_neg (by decide)]
theorem LN_pump {F : Nat} (hF : 1000 ≤ F) {f : Nat → Int32} {e Lb : Nat} {sRd sSp sMo : MS} (G : GD f e Lb sRd sSp sMo) (h10 : sMo.2.2.1 16 10 = 1) (h7 : (sMo.2.2.1 16 7).toInt < 8) : ∃ M1, f_X11_next F sMo = some M1 ∧ FX sMo M1 ∧ LN f e Lb (f_X7_readPump F 800 f sRd sSp) (f_X11_pumpLine F M1) sMo := by
  obtain ⟨R1, M1, n1, n2, n3, n4, n5⟩ := N_next hF G.z G.d
  have G1 : GD f e Lb R1 sSp M1 := GD_k G ⟨n3, FRd_w n4, n5⟩
  have X1 : FX sMo M1 := FX_m n5
  refine ⟨M1, n2, X1, ?_⟩
  have e16 := n5.2 16 (by decide)
  rw [← e16] at h10 h7
  have pk := G1.pk
  have rp := G1.rp
  obtain ⟨N, hN⟩ := toN pk.nu.1.1
  have N9 : N ≤ 9 := by have := pk.nu.1.2; omega
  have r5 : M1.2.2.1 16 5 = Int32.ofInt (N : Int) := by rw [← hN]; exact n_out _
  have q5 : sSp.1 5 = Int32.ofInt (N : Int) := (rp.num 5 (by omega)).trans r5
  have k13 : M1.1 13 = Int32.ofInt 0 := G1.ok
  rcases T_told hF G1.z G1.d G1.ok G1.nm N9 r5 q5 with ⟨z, hz, t1, t2, t3⟩ | ⟨R2, M2, t1, t2, t3, t4⟩
  rotate_left
  · have hb := t3.1
    refine Or.inr ⟨R2, sSp, M2, ?_, t3, FX_t X1 t4, ?_⟩
    · unfold f_X7_readPump
      rw [n1, bd_some, bd_no t1]
    · unfold f_X11_pumpLine
      simp (disch := first | omega | simp only [sA_1, hb]) only [z_0, z_1, z_2, z_3, z_4, z_5, z_6, z_7, z_8, z_9, z_10, z_11, z_12, z_14, z_18, z_20, z_22, z_24, z_32, z_38, z_40, z_41, z_44, z_48, z_49, z_57, z_59, z_60, z_63, z_65, z_74, z_75, z_81, z_97, z_99, z_104, z_115, z_119, z_122, z_200, z_209, z_210, z_219, z_228, z_255, z_300, z_369, z_999, z_65537, z_268435456, z_1000000000, n_nat, n_add, n_sub, n_mul, n_neg, n_lt, n_le, n_eq, n_ix, n_gd, n_nz, lz_t, bd_some, tn, Int.reduceToNat, tn_1, if_pos, if_neg, if_true, if_false, k13, t2, hb, B_pump45]
      exact FT_r _
  have i11 : (11 : Int) + 3 * (z : Int) = ((11 + 3 * z : Nat) : Int) := by omega
  have pz := pk.pu z (by omega)
  obtain ⟨pv, hpv, pv1, pv2⟩ : ∃ v : Int, M1.2.2.1 16 (11 + 3 * z) = Int32.ofInt v ∧ 0 ≤ v ∧ v ≤ 99 := ⟨_, n_out _, pz.1.1, pz.1.2⟩
  have hc12 : sSp.2.2.1 12 z = Int32.ofInt pv := by rw [(rp.pum z (by omega)).1, hpv]
  have e4 := RD_46 G1.d
  by_cases cp : 0 < pv
  · have hb := wrS_13 M1 3 (M1.1 4)
    have w3 := wrong_e (F := F) 3 (M1.1 4) G1.ok
    refine Or.inr ⟨faS R1 3 (R1.1 6), sSp, wrS M1 3 (M1.1 4), ?_, ?_, FX_t X1 (FX_w _ _ _), ?_⟩
    · unfold f_X7_readPump
      rw [n1, bd_some, bd_ok t1, t2, bd_some, n_gd _ _ _ (by omega) (by omega) (by omega), n_ix _ (by omega) (by omega), tn, lz_t, hc12, if_neg (by rw [z_0, n_le _ _ (by omega) (by omega) (by omega) (by omega)]; omega), fail_e]; rfl
    · rw [e4]; exact BAD_w _ _ _ _
    · unfold f_X11_pumpLine
      generalize hW : wrS M1 3 (M1.1 4) = W at *
      have w3' : f_X11_wrong F (Int32.ofInt 3) (M1.1 4) M1 = some W := w3
      simp (disch := first | omega | simp only [sA_1, hb]) only [z_0, z_1, z_2, z_3, z_4, z_5, z_6, z_7, z_8, z_9, z_10, z_11, z_12, z_14, z_18, z_20, z_22, z_24, z_32, z_38, z_40, z_41, z_44, z_48, z_49, z_57, z_59, z_60, z_63, z_65, z_74, z_75, z_81, z_97, z_99, z_104, z_115, z_119, z_122, z_200, z_209, z_210, z_219, z_228, z_255, z_300, z_369, z_999, z_65537, z_268435456, z_1000000000, n_nat, n_add, n_sub, n_mul, n_neg, n_lt, n_le, n_eq, n_ix, n_gd, n_nz, lz_t, bd_some, tn, Int.reduceToNat, tn_1, if_pos, if_neg, if_true, if_false, k13, t3, i11, hpv, w3', B_pump45]
      exact FT_r _
  · obtain ⟨R2, M2, m1, m2, m3, m4, m5⟩ := N_next hF G1.z G1.d
    have G2 : GD f e Lb R2 sSp M2 := GD_k G1 ⟨m3, FRd_w m4, m5⟩
    have X2 : FX sMo M2 := FX_t X1 (FX_m m5)
    have refe : f_X11_pumpLine F M1 = f_X11_pumpLine_45 F (Int32.ofInt ((11 + 3 * z : Nat) : Int)) M1 := by
      unfold f_X11_pumpLine
      simp (disch := first | omega) only [z_0, z_1, z_2, z_3, z_4, z_5, z_6, z_7, z_8, z_9, z_10, z_11, z_12, z_14, z_18, z_20, z_22, z_24, z_32, z_38, z_40, z_41, z_44, z_48, z_49, z_57, z_59, z_60, z_63, z_65, z_74, z_75, z_81, z_97, z_99, z_104, z_115, z_119, z_122, z_200, z_209, z_210, z_219, z_228, z_255, z_300, z_369, z_999, z_65537, z_268435456, z_1000000000, n_nat, n_add, n_sub, n_mul, n_neg, n_lt, n_le, n_eq, n_ix, n_gd, n_nz, lz_t, bd_some, tn, Int.reduceToNat, tn_1, if_pos, if_neg, if_true, if_false, k13, t3, i11, hpv]
    rw [refe]
    unfold f_X7_readPump f_X11_pumpLine_45
    rw [n1, bd_some, bd_ok t1, t2, bd_some, n_gd _ _ _ (by omega) (by omega) (by omega), n_ix _ (by omega) (by omega), tn, lz_t, hc12, if_pos (show Int32.ofInt pv ≤ 0 by rw [z_0, n_le _ _ (by omega) (by omega) (by omega) (by omega)]; omega), m1, bd_some, G1.ok, if_pos rfl, m2, bd_some]
    rcases AFT hF G2.z G2.d G2.ok (lo := 1) (hi := 99) (by omega) (by omega) (by omega) (by omega) (p := 12) (by decide) with ⟨A, R3a, R3, M3, A1, A2, y1, y2, y3, y4, y5⟩ | ⟨R3, M3, y1, y2, y3, y4⟩
    rotate_left
    · have hb := y3.1
      refine Or.inr ⟨R3, sSp, M3, ?_, y3, FX_t X2 y4, ?_⟩
      · rcases y1 with y1 | ⟨R3a, y1, y1'⟩
        · rw [bd_no y1]
        · have y1'' : f_X7_passWhole F 800 f 1 99 R3a = some (0, R3) := y1'
          rw [bd_ok y1, bd_no y1'']
      · simp (disch := first | omega | simp only [sA_1, hb]) only [z_0, z_1, z_2, z_3, z_4, z_5, z_6, z_7, z_8, z_9, z_10, z_11, z_12, z_14, z_18, z_20, z_22, z_24, z_32, z_38, z_40, z_41, z_44, z_48, z_49, z_57, z_59, z_60, z_63, z_65, z_74, z_75, z_81, z_97, z_99, z_104, z_115, z_119, z_122, z_200, z_209, z_210, z_219, z_228, z_255, z_300, z_369, z_999, z_65537, z_268435456, z_1000000000, n_nat, n_add, n_sub, n_mul, n_neg, n_lt, n_le, n_eq, n_ix, n_gd, n_nz, lz_t, bd_some, tn, Int.reduceToNat, tn_1, if_pos, if_neg, if_true, if_false, y2, B_takesWord, B_pump121]
        exact FT_r _
    have y2' : f_X7_passWhole F 800 f 1 99 R3a = some (1, R3) := y2
    have y4' : f_X11_after F 1 99 12 M2 = some (Int32.ofInt A, M3) := y4
    have G3 : GD f e Lb R3 sSp M3 := GD_k G2 y5
    have X3 : FX sMo M3 := FX_t X2 (FX_m y5.2.2)
    have e3 : M3.2.2.1 16 = M1.2.2.1 16 := by rw [y5.2.2.2 16 (by decide), m5.2 16 (by decide)]
    rw [bd_ok y1, bd_ok y2', n_gd _ _ _ (by omega) (by omega) (by omega), y4', bd_some]
    have y3' : (1, R3).2.1 8 = Int32.ofInt A := y3
    rw [y3', lz_t]
    obtain ⟨v, v1, v2, -⟩ := P_isWord hF G3.z G3.d G3.ok (p := 13) (by decide)
    have v1' : f_X7_isWord F (1, R3).2 800 f 13 = some (bi v) := v1
    rw [v1', bd_some]
    unfold f_X11_takesWord
    have v2' : f_X11_isWord F (Int32.ofInt A, M3).2 13 = some (bi v) := v2
    rw [v2', bd_some]
    have c12 : (sA sSp 12 z (Int32.ofInt A)).2.2.1 12 = upd (sSp.2.2.1 12) z (Int32.ofInt A) := sA_u _ _ _ _
    cases v with
    | false =>
      rw [if_pos (show bi false = 0 from rfl), if_pos (show bi false = 0 from rfl), bd_some, if_pos (show (0, (Int32.ofInt A, M3).2).1 = (0 : Int32) from rfl)]
      refine LN_pumpT hF G3 (by rw [e3]; exact hN) N9 (by rw [e3]; exact h10) (by rw [e3]; exact h7) hz A1 A2 (B := 0) (by omega) (by omega) X3 rfl c12 ?_ (fun a h1 h2 => sA_n _ _ _ _ _ h1)
      rw [sA_n _ _ _ _ _ (by decide)]
      funext j
      by_cases c : j = z
      · subst c
        rw [up_s, (rp.pum j (by omega)).2.1, pz.2.2.2 (by rw [hpv, show pv = 0 by omega]; rfl)]
        rfl
      · rw [up_n _ _ _ _ c]
    | true =>
      obtain ⟨R4, M4, o1, o2, o3, o4, o5⟩ := N_next hF G3.z G3.d
      have G4 : GD f e Lb R4 sSp M4 := GD_k G3 ⟨o3, FRd_w o4, o5⟩
      have X4 : FX sMo M4 := FX_t X3 (FX_m o5)
      have e4' := RD_46 G4.d
      have k4 : M4.1 13 = Int32.ofInt 0 := G4.ok
      have o1' : f_X7_lookOn F 800 f (1, R3).2 = some R4 := o1
      have o2' : f_X11_next F (Int32.ofInt A, M3).2 = some M4 := o2
      rw [if_neg (show ¬ bi true = 0 by decide), if_neg (show ¬ bi true = 0 by decide), o1', o2', bd_some, bd_some, bd_some, if_neg (show ¬ (1, M4).1 = (0 : Int32) from (by decide : ¬ (1 : Int32) = 0))]
      rcases ST_here hF G4.z G4.d G4.ok (lo := 1) (hi := 99) (by omega) (by omega) (by omega) (by omega) with ⟨B, R5, M5, B1, B2, c1, c2, c3, c4, c5⟩ | ⟨R5, M5, c1, c2, c3, c4⟩
      · have c1' : f_X7_passWhole F 800 f 1 99 R4 = some (1, R5) := c1
        have c3' : f_X11_numberHere F 1 99 (1, M4).2 = some (Int32.ofInt B, M4) := c3
        have G5 : GD f e Lb R5 sSp M5 := GD_k G4 c5
        have X5 : FX sMo M5 := FX_t X4 (FX_m c5.2.2)
        have e5 : M5.2.2.1 16 = M1.2.2.1 16 := by rw [c5.2.2.2 16 (by decide), o5.2 16 (by decide), e3]
        rw [bd_ok c1', c3', bd_some, n_gd _ _ _ (by omega) (by omega) (by omega), lz_t, sA_g]
        have c2' : (1, R5).2.1 8 = Int32.ofInt B := c2
        have k4' : ((Int32.ofInt B, M4).2.1 13) = (0 : Int32) := G4.ok
        rw [c2', if_pos k4']
        by_cases cB : B = A
        · have hb := wrS_13 M4 3 (M4.1 4)
          have w3 := wrong_e (F := F) 3 (M4.1 4) G4.ok
          have w3' : f_X11_wrong F 3 ((Int32.ofInt B, M4).2.1 4) (Int32.ofInt B, M4).2 = some (wrS M4 3 (M4.1 4)) := w3
          rw [if_pos (by rw [cB]), if_pos (show (Int32.ofInt B, M4).1 = (Int32.ofInt A, M3).1 by rw [cB]), failAt_e, w3', bd_some, bd_some, B_pump110 hb]
          refine Or.inr ⟨faS R5 3 (R4.1 6), sA sSp 12 z (Int32.ofInt A), wrS M4 3 (M4.1 4), rfl, ?_, FX_t X4 (FX_w _ _ _), FT_r _⟩
          rw [e4']; exact BAD_w _ _ _ _
        · have hne : ¬ Int32.ofInt B = Int32.ofInt A := by rw [n_eq _ _ (by omega) (by omega) (by omega) (by omega)]; exact cB
          rw [if_neg hne, if_neg (show ¬ (Int32.ofInt B, M4).1 = (Int32.ofInt A, M3).1 from hne), n_gd _ _ _ (by omega) (by omega) (by omega), lz_t]
          unfold f_X11_pumpLine_110
          have c4' : f_X11_next F (Int32.ofInt B, M4).2 = some M5 := c4
          rw [if_pos k4', c4', bd_some]
          refine LN_pumpT hF G5 (by rw [e5]; exact hN) N9 (by rw [e5]; exact h10) (by rw [e5]; exact h7) hz A1 A2 (B := B) (by omega) (by omega) X5 rfl ?_ ?_ ?_
          · rw [sA_n _ _ _ _ _ (by decide), sA_u]
          · rw [sA_u, sA_n _ _ _ _ _ (by decide)]
          · intro a h1 h2
            rw [sA_n _ _ _ _ _ h2, sA_n _ _ _ _ _ h1]
      · have hb := c3.1
        have c1' : f_X7_passWhole F 800 f 1 99 R4 = some (0, R5) := c1
        have c2' : f_X11_numberHere F 1 99 (1, M4).2 = some (Int32.ofInt 1, M5) := c2
        rw [bd_no c1', c2', bd_some]
        have hb' : ¬ ((Int32.ofInt 1, M5).2.1 13) = (0 : Int32) := by
          show ¬ M5.1 13 = 0
          rw [hb]; decide
        rw [if_neg hb', B_pump110 (s := (Int32.ofInt 1, M5).2) hb]
        exact Or.inr ⟨R5, sA sSp 12 z (Int32.ofInt A), M5, rfl, c3, FX_t X4 c4, FT_r _⟩
