/-! the line of a receipt -/
theorem B_receiptLine_58 {F : Nat} {s : MS} {x y : Int32} (h : s.1 13 = Int32.ofInt 1) : f_X11_receiptLine_58 F x y s = some s := by
  unfold f_X11_receiptLine_58
  rw [h, if_neg (by decide)]
theorem LN_rec {F : Nat} (hF : 1000 ≤ F) {f : Nat → Int32} {e Lb : Nat} {sRd sSp sMo : MS} (G : GD f e Lb sRd sSp sMo) (h10 : sMo.2.2.1 16 10 = 1) (h9 : (sMo.2.2.1 16 9).toInt < 5) : ∃ M1, f_X11_next F sMo = some M1 ∧ FX sMo M1 ∧ LN f e Lb (f_X7_readReceipt F 800 f sRd sSp) (f_X11_receiptLine F M1) sMo := by
  obtain ⟨R1, M1, n1, n2, n3, n4, n5⟩ := N_next hF G.z G.d
  have G1 : GD f e Lb R1 sSp M1 := GD_k G ⟨n3, FRd_w n4, n5⟩
  have X1 : FX sMo M1 := FX_m n5
  refine ⟨M1, n2, X1, ?_⟩
  have e16 := n5.2 16 (by decide)
  rw [← e16] at h10 h9
  have pk := G1.pk
  have rp := G1.rp
  have nm := G1.nm
  obtain ⟨N, hN⟩ := toN pk.nu.1.1
  have N9 : N ≤ 9 := by have := pk.nu.1.2; omega
  have r5 : M1.2.2.1 16 5 = Int32.ofInt (N : Int) := by rw [← hN]; exact n_out _
  have q5 : sSp.1 5 = Int32.ofInt (N : Int) := (rp.num 5 (by omega)).trans r5
  obtain ⟨K, hK⟩ := toN pk.nu.2.2.2.2.1
  have r9 : M1.2.2.1 16 9 = Int32.ofInt (K : Int) := by rw [← hK]; exact n_out _
  have q9 : sSp.1 9 = Int32.ofInt (K : Int) := (rp.num 9 (by omega)).trans r9
  rw [hK] at h9
  have k13 : M1.1 13 = Int32.ofInt 0 := G1.ok
  have i209 : (209 : Int) + 2 * (K : Int) = ((209 + 2 * K : Nat) : Int) := by omega
  have i210 : ((209 + 2 * K : Nat) : Int) + 1 = ((210 + 2 * K : Nat) : Int) := by omega
  rcases T_told hF G1.z G1.d G1.ok nm N9 r5 q5 with ⟨z, hz, t1, t2, t3⟩ | ⟨R2, M2, t1, t2, t3, t4⟩
  rotate_left
  · have hb := t3.1
    refine Or.inr ⟨R2, sSp, M2, ?_, t3, FX_t X1 t4, ?_⟩
    · unfold f_X7_readReceipt
      rw [n1, bd_some, bd_no t1]
    · unfold f_X11_receiptLine
      simp (disch := first | omega | simp only [sA_1, hb]) only [z_0, z_1, z_2, z_3, z_4, z_5, z_6, z_7, z_8, z_9, z_10, z_11, z_12, z_14, z_18, z_20, z_22, z_24, z_32, z_38, z_40, z_41, z_44, z_48, z_49, z_57, z_59, z_60, z_63, z_65, z_74, z_75, z_81, z_97, z_99, z_104, z_115, z_119, z_122, z_200, z_209, z_210, z_219, z_228, z_255, z_300, z_369, z_999, z_65537, z_268435456, z_1000000000, n_nat, n_add, n_sub, n_mul, n_neg, n_lt, n_le, n_eq, n_ix, n_gd, n_nz, lz_t, bd_some, tn, Int.reduceToNat, tn_1, if_pos, if_neg, if_true, if_false, k13, r9, t2, hb, B_receiptLine_58]
      exact FT_r _
  have i11 : (11 : Int) + 3 * (z : Int) = ((11 + 3 * z : Nat) : Int) := by omega
  have pz := pk.pu z (by omega)
  obtain ⟨pv, hpv, pv1, pv2⟩ : ∃ v : Int, M1.2.2.1 16 (11 + 3 * z) = Int32.ofInt v ∧ 0 ≤ v ∧ v ≤ 99 := ⟨_, n_out _, pz.1.1, pz.1.2⟩
  have epv : (M1.2.2.1 16 (11 + 3 * z)).toInt = pv := by rw [hpv, n_toI _ (by omega) (by omega)]
  have hc12 : sSp.2.2.1 12 z = Int32.ofInt pv := by rw [(rp.pum z (by omega)).1, hpv]
  have e4 := RD_46 G1.d
  by_cases cp : pv = 0
  · have hb := wrS_13 M1 7 (M1.1 4)
    have w3 := wrong_e (F := F) 7 (M1.1 4) G1.ok
    refine Or.inr ⟨faS R1 7 (R1.1 6), sSp, wrS M1 7 (M1.1 4), ?_, ?_, FX_t X1 (FX_w _ _ _), ?_⟩
    · unfold f_X7_readReceipt
      rw [n1, bd_some, bd_ok t1, t2, bd_some, n_gd _ _ _ (by omega) (by omega) (by omega), n_ix _ (by omega) (by omega), tn, lz_t, hc12, if_pos (by rw [cp]; rfl), fail_e]; rfl
    · rw [e4]; exact BAD_w _ _ _ _
    · unfold f_X11_receiptLine
      generalize hW : wrS M1 7 (M1.1 4) = W at *
      have w3' : f_X11_wrong F (Int32.ofInt 7) (M1.1 4) M1 = some W := w3
      simp (disch := first | omega | simp only [sA_1, hb]) only [z_0, z_1, z_2, z_3, z_4, z_5, z_6, z_7, z_8, z_9, z_10, z_11, z_12, z_14, z_18, z_20, z_22, z_24, z_32, z_38, z_40, z_41, z_44, z_48, z_49, z_57, z_59, z_60, z_63, z_65, z_74, z_75, z_81, z_97, z_99, z_104, z_115, z_119, z_122, z_200, z_209, z_210, z_219, z_228, z_255, z_300, z_369, z_999, z_65537, z_268435456, z_1000000000, n_nat, n_add, n_sub, n_mul, n_neg, n_lt, n_le, n_eq, n_ix, n_gd, n_nz, lz_t, bd_some, tn, Int.reduceToNat, tn_1, if_pos, if_neg, if_true, if_false, k13, r9, t3, i11, hpv, w3', B_receiptLine_58]
      exact FT_r _
  · obtain ⟨R2, M2, m1, m2, m3, m4, m5⟩ := N_next hF G1.z G1.d
    have G2 : CG f e Lb R2 M2 := CG_k (CG_g G1) ⟨m3, FRd_w m4, m5⟩
    have G3 : CG f e Lb R2 (sA M2 16 (209 + 2 * K) (Int32.ofInt (z : Int))) := CG_a G2 _ _
    have X3 : FX sMo (sA M2 16 (209 + 2 * K) (Int32.ofInt (z : Int))) := FX_t (FX_t X1 (FX_m m5)) (FX_a _ _ _)
    have refe : f_X11_receiptLine F M1 = f_X11_receiptLine_58 F (Int32.ofInt ((209 + 2 * K : Nat) : Int)) (Int32.ofInt (z : Int)) M1 := by
      unfold f_X11_receiptLine
      simp (disch := first | omega) only [z_0, z_1, z_2, z_3, z_4, z_5, z_6, z_7, z_8, z_9, z_10, z_11, z_12, z_14, z_18, z_20, z_22, z_24, z_32, z_38, z_40, z_41, z_44, z_48, z_49, z_57, z_59, z_60, z_63, z_65, z_74, z_75, z_81, z_97, z_99, z_104, z_115, z_119, z_122, z_200, z_209, z_210, z_219, z_228, z_255, z_300, z_369, z_999, z_65537, z_268435456, z_1000000000, n_nat, n_add, n_sub, n_mul, n_neg, n_lt, n_le, n_eq, n_ix, n_gd, n_nz, lz_t, bd_some, tn, Int.reduceToNat, tn_1, if_pos, if_neg, if_true, if_false, k13, r9, t3, i11, hpv, i209]
    rw [refe]
    have clse : f_X7_readReceipt F 800 f sRd sSp = bd (f_X7_passWhole F 800 f (1 : Int32) (999 : Int32) R2) fun o9 => if o9.1 = (0 : Int32) then (some ((0 : Int32), o9.2, sSp)) else (gd (vpb (sSp.1 9) 5) <| lz (sA sSp 17 ((sSp.1 9).toNatClampNeg) (Int32.ofInt (z : Int))) fun s12 => gd (vpb (s12.1 9) 5) <| lz (sA s12 18 ((s12.1 9).toNatClampNeg) (o9.2.1 8)) fun s14 => lz ((s14.1 9) + (1 : Int32)) fun v15 => lz (sI s14 9 v15) fun s16 => some ((1 : Int32), o9.2, s16)) := by
      unfold f_X7_readReceipt
      rw [n1, bd_some, bd_ok t1, t2, bd_some, n_gd _ _ _ (by omega) (by omega) (by omega), n_ix _ (by omega) (by omega), tn, lz_t, hc12, if_neg (by rw [z_0, n_eq _ _ (by omega) (by omega) (by omega) (by omega)]; exact cp), m1, bd_some]
    rw [clse]
    rcases ST_whole hF G3.1 G3.2.1 G3.2.2 (lo := 1) (hi := 999) (by omega) (by omega) (by omega) (by omega) with ⟨v, R4, M4, v1, v2, c1, c2, c3, c4⟩ | ⟨R4, M4, c1, c2, c3, c4⟩
    rotate_left
    · have hb := c3.1
      refine Or.inr ⟨R4, sSp, M4, ?_, c3, FX_t X3 c4, ?_⟩
      · have c1' : f_X7_passWhole F 800 f 1 999 R2 = some (0, R4) := c1
        rw [bd_no c1']
      · unfold f_X11_receiptLine_58
        simp (disch := first | omega) only [z_0, z_1, z_2, z_3, z_4, z_5, z_6, z_7, z_8, z_9, z_10, z_11, z_12, z_14, z_18, z_20, z_22, z_24, z_32, z_38, z_40, z_41, z_44, z_48, z_49, z_57, z_59, z_60, z_63, z_65, z_74, z_75, z_81, z_97, z_99, z_104, z_115, z_119, z_122, z_200, z_209, z_210, z_219, z_228, z_255, z_300, z_369, z_999, z_65537, z_268435456, z_1000000000, n_nat, n_add, n_sub, n_mul, n_neg, n_lt, n_le, n_eq, n_ix, n_gd, n_nz, lz_t, bd_some, tn, Int.reduceToNat, tn_1, if_pos, if_neg, if_true, if_false, k13, m2, c2, i210, sA_1, hb]
        exact FT_a rfl (fun a ha => by simp (disch := exact ha) only [sA_n])
    have c1' : f_X7_passWhole F 800 f 1 999 R2 = some (1, R4) := c1
    have K1 : (K : Int) + 1 = ((K + 1 : Nat) : Int) := by omega
    have e4' : M4.2.2.1 16 = upd (M1.2.2.1 16) (209 + 2 * K) (Int32.ofInt (z : Int)) := by rw [c4.2.2.2 16 (by decide), sA_u, m5.2 16 (by decide)]
    have t9 : (sA M4 16 (210 + 2 * K) (Int32.ofInt v)).2.2.1 16 9 = Int32.ofInt (K : Int) := by rw [sA_u, up_n _ _ _ _ (by omega), e4', up_n _ _ _ _ (by omega), r9]
    have k4 : M4.1 13 = Int32.ofInt 0 := (CG_k G3 c4).2.2
    have ref : f_X11_receiptLine_58 F (Int32.ofInt ((209 + 2 * K : Nat) : Int)) (Int32.ofInt (z : Int)) M1 = some (sA (sA M4 16 (210 + 2 * K) (Int32.ofInt v)) 16 9 (Int32.ofInt ((K + 1 : Nat) : Int))) := by
      unfold f_X11_receiptLine_58
      simp (disch := first | omega) only [z_0, z_1, z_2, z_3, z_4, z_5, z_6, z_7, z_8, z_9, z_10, z_11, z_12, z_14, z_18, z_20, z_22, z_24, z_32, z_38, z_40, z_41, z_44, z_48, z_49, z_57, z_59, z_60, z_63, z_65, z_74, z_75, z_81, z_97, z_99, z_104, z_115, z_119, z_122, z_200, z_209, z_210, z_219, z_228, z_255, z_300, z_369, z_999, z_65537, z_268435456, z_1000000000, n_nat, n_add, n_sub, n_mul, n_neg, n_lt, n_le, n_eq, n_ix, n_gd, n_nz, lz_t, bd_some, tn, Int.reduceToNat, tn_1, if_pos, if_neg, if_true, if_false, k13, m2, c3, i210, sA_1, k4, t9, K1]
    have cls : (bd (f_X7_passWhole F 800 f (1 : Int32) (999 : Int32) R2) fun o9 => if o9.1 = (0 : Int32) then (some ((0 : Int32), o9.2, sSp)) else (gd (vpb (sSp.1 9) 5) <| lz (sA sSp 17 ((sSp.1 9).toNatClampNeg) (Int32.ofInt (z : Int))) fun s12 => gd (vpb (s12.1 9) 5) <| lz (sA s12 18 ((s12.1 9).toNatClampNeg) (o9.2.1 8)) fun s14 => lz ((s14.1 9) + (1 : Int32)) fun v15 => lz (sI s14 9 v15) fun s16 => some ((1 : Int32), o9.2, s16))) = some (1, R4, sI (sA (sA sSp 17 K (Int32.ofInt (z : Int))) 18 K (Int32.ofInt v)) 9 (Int32.ofInt ((K + 1 : Nat) : Int))) := by
      rw [bd_ok c1']
      simp (disch := first | omega) only [z_0, z_1, z_2, z_3, z_4, z_5, z_6, z_7, z_8, z_9, z_10, z_11, z_12, z_14, z_18, z_20, z_22, z_24, z_32, z_38, z_40, z_41, z_44, z_48, z_49, z_57, z_59, z_60, z_63, z_65, z_74, z_75, z_81, z_97, z_99, z_104, z_115, z_119, z_122, z_200, z_209, z_210, z_219, z_228, z_255, z_300, z_369, z_999, z_65537, z_268435456, z_1000000000, n_nat, n_add, n_sub, n_mul, n_neg, n_lt, n_le, n_eq, n_ix, n_gd, n_nz, lz_t, bd_some, tn, Int.reduceToNat, tn_1, if_pos, if_neg, if_true, if_false, q9, sA_1, c2, K1]
    have G4 := CG_k G3 c4
    have eM : (sA (sA M4 16 (210 + 2 * K) (Int32.ofInt v)) 16 9 (Int32.ofInt ((K + 1 : Nat) : Int))).2.2.1 16 = upd (upd (upd (M1.2.2.1 16) (209 + 2 * K) (Int32.ofInt (z : Int))) (210 + 2 * K) (Int32.ofInt v)) 9 (Int32.ofInt ((K + 1 : Nat) : Int)) := by
      rw [sA_u, sA_u, e4']
    have G5 : CG f e Lb R4 (sA (sA M4 16 (210 + 2 * K) (Int32.ofInt v)) 16 9 (Int32.ofInt ((K + 1 : Nat) : Int))) := CG_a (CG_a G4 _ _) _ _
    have W : FRw R1 R4 := FRw_t (FRd_w m4) c4.2.1
    refine Or.inl ⟨_, _, _, cls, ref, ⟨G5.1, G5.2.1, G5.2.2, ?_, (W.1 0 (by omega)).trans G1.f0, (W.1 1 (by omega)).trans G1.f1, ?_, ?_, ?_⟩, FX_t (FX_t X3 (FX_m c4.2.2)) (FX_t (FX_a _ _ _) (FX_a _ _ _))⟩
    · rw [sA_1, sA_1, c4.2.2.1 9 (by omega), sA_1, m5.1 9 (by omega)]; exact G1.no
    all_goals rw [eM]
    all_goals generalize hr : M1.2.2.1 16 = r at *
    all_goals
      have hk : ∀ k, k ≠ 9 → k ≠ 209 + 2 * K → k ≠ 210 + 2 * K → upd (upd (upd r (209 + 2 * K) (Int32.ofInt (z : Int))) (210 + 2 * K) (Int32.ofInt v)) 9 (Int32.ofInt ((K + 1 : Nat) : Int)) k = r k := by
        intro k g1 g2 g3
        rw [up_n _ _ _ _ g1, up_n _ _ _ _ g3, up_n _ _ _ _ g2]
      have g9 : upd (upd (upd r (209 + 2 * K) (Int32.ofInt (z : Int))) (210 + 2 * K) (Int32.ofInt v)) 9 (Int32.ofInt ((K + 1 : Nat) : Int)) 9 = Int32.ofInt ((K + 1 : Nat) : Int) := up_s _ _ _
      have g209 : upd (upd (upd r (209 + 2 * K) (Int32.ofInt (z : Int))) (210 + 2 * K) (Int32.ofInt v)) 9 (Int32.ofInt ((K + 1 : Nat) : Int)) (209 + 2 * K) = Int32.ofInt (z : Int) := by
        rw [up_n _ _ _ _ (by omega), up_n _ _ _ _ (by omega), up_s]
      have g210 : upd (upd (upd r (209 + 2 * K) (Int32.ofInt (z : Int))) (210 + 2 * K) (Int32.ofInt v)) 9 (Int32.ofInt ((K + 1 : Nat) : Int)) (210 + 2 * K) = Int32.ofInt v := by
        rw [up_n _ _ _ _ (by omega), up_s]
      generalize upd (upd (upd r (209 + 2 * K) (Int32.ofInt (z : Int))) (210 + 2 * K) (Int32.ofInt v)) 9 (Int32.ofInt ((K + 1 : Nat) : Int)) = r' at *
      have t9' : (r' 9).toInt = K + 1 := by rw [g9, n_toI _ (by omega) (by omega)]; omega
      have ez : (Int32.ofInt (z : Int)).toInt = z := n_toI _ (by omega) (by omega)
      have ev : (Int32.ofInt v).toInt = v := n_toI _ (by omega) (by omega)
    · refine ⟨?_, ?_, RoK_c (fun k _ => hk _ (by omega) (by omega) (by omega)) (by rw [hk 5 (by omega) (by omega) (by omega)]; exact Int.le_refl _) pk.ro, MiK_c (fun k _ => hk _ (by omega) (by omega) (by omega)) pk.mi, PuK_c (fun k _ => hk _ (by omega) (by omega) (by omega)) pk.pu, WyK_c (hk 8 (by omega) (by omega) (by omega)) (by have := pk.nu.2.2.2.1; omega) (fun k _ => hk _ (by omega) (by omega) (by omega)) (fun k _ h => by rw [hk _ (by omega) (by omega) (by omega)]; exact h) (by rw [hk 5 (by omega) (by omega) (by omega)]; exact Int.le_refl _) (by omega) pk.wy, ?_⟩
      · have := pk.ca
        unfold CaK at *
        rw [hk 10 (by omega) (by omega) (by omega), hk 0 (by omega) (by omega) (by omega), hk 1 (by omega) (by omega) (by omega), hk 2 (by omega) (by omega) (by omega), hk 3 (by omega) (by omega) (by omega), hk 4 (by omega) (by omega) (by omega)]
        rcases this with ⟨g, -⟩ | g
        · rw [h10] at g; exact absurd g (by decide)
        · exact Or.inr g
      · have := pk.nu
        unfold NuK at *
        rw [hk 5 (by omega) (by omega) (by omega), hk 6 (by omega) (by omega) (by omega), hk 7 (by omega) (by omega) (by omega), hk 8 (by omega) (by omega) (by omega), t9']
        exact ⟨this.1, this.2.1, this.2.2.1, this.2.2.2.1, by omega⟩
      · intro k hk'
        rw [t9'] at hk'
        by_cases c : k = K
        · subst c
          rw [g209, g210, hk 5 (by omega) (by omega) (by omega), n_ix _ (by omega) (by omega), tn, hk (11 + 3 * z) (by omega) (by omega) (by omega), ez, ev, hN, epv]
          omega
        · obtain ⟨a1, a2, a3⟩ := pk.re k (by omega)
          have b1 := i_nat _ a1.1
          rw [hk (209 + 2 * k) (by omega) (by omega) (by omega), hk (210 + 2 * k) (by omega) (by omega) (by omega), hk 5 (by omega) (by omega) (by omega), hk (11 + _) (by omega) (by omega) (by omega)]
          exact ⟨a1, a2, a3⟩
    · refine ⟨?_, fun k hk' => by rw [hk _ (by omega) (by omega) (by omega)]; exact rp.pin k hk', fun k hk' => by rw [hk _ (by omega) (by omega) (by omega)]; exact rp.min k hk', fun p hp => by rw [hk _ (by omega) (by omega) (by omega), hk _ (by omega) (by omega) (by omega), hk _ (by omega) (by omega) (by omega)]; exact rp.pum p hp, fun i hi => ?_, fun hi => ?_, fun i hi => ?_, fun i hi => ?_⟩
      · intro k hk'
        by_cases c : k = 9
        · subst c
          rw [sI_s, g9]
        · rw [sI_n _ _ _ _ c, hk k c (by omega) (by omega)]
          exact rp.num k hk'
      · rw [hk 8 (by omega) (by omega) (by omega)] at hi
        have := pk.nu.2.2.2.1
        rw [hk _ (by omega) (by omega) (by omega)]
        exact rp.way i hi
      · rw [hk 8 (by omega) (by omega) (by omega)] at hi
        exact rp.up0 hi
      · rw [hk 8 (by omega) (by omega) (by omega)] at hi
        have b8 := pk.nu.2.2.2.1
        have h1 := pk.wy.1 i (by omega)
        have h2 := pk.wy.1 (i + 1) (by omega)
        have d1 := i_nat _ h1.1
        have d2 := i_nat _ h2.1
        rw [hk (200 + i) (by omega) (by omega) (by omega), hk (200 + (i + 1)) (by omega) (by omega) (by omega), hk (38 + _) (by omega) (by omega) (by omega)]
        exact rp.upt i hi
      · rw [t9'] at hi
        show (sA (sA sSp 17 K (Int32.ofInt (z : Int))) 18 K (Int32.ofInt v)).2.2.1 17 i = _ ∧ (sA (sA sSp 17 K (Int32.ofInt (z : Int))) 18 K (Int32.ofInt v)).2.2.1 18 i = _
        have h17 : (sA (sA sSp 17 K (Int32.ofInt (z : Int))) 18 K (Int32.ofInt v)).2.2.1 17 = upd (sSp.2.2.1 17) K (Int32.ofInt (z : Int)) := by rw [sA_n _ _ _ _ _ (by decide), sA_u]
        have h18 : (sA (sA sSp 17 K (Int32.ofInt (z : Int))) 18 K (Int32.ofInt v)).2.2.1 18 = upd (sSp.2.2.1 18) K (Int32.ofInt v) := by rw [sA_u, sA_n _ _ _ _ _ (by decide)]
        rw [h17, h18]
        by_cases c : i = K
        · subst c
          rw [up_s, up_s, g209, g210]
          exact ⟨rfl, rfl⟩
        · rw [up_n _ _ _ _ c, up_n _ _ _ _ c, hk _ (by omega) (by omega) (by omega), hk _ (by omega) (by omega) (by omega)]
          exact rp.rec i (by omega)
    · intro n hn
      rw [hk 5 (by omega) (by omega) (by omega)] at hn
      obtain ⟨a0, b0, g1, g2, g3, g4, g5, g6, g7⟩ := nm n hn
      have eA : R4.2 = R1.2 := W.2
      refine ⟨a0, b0, g1, g2, g3, by rw [eA]; exact g4, by rw [eA]; exact g5, ?_, ?_⟩
      · rw [hk _ (by omega) (by omega) (by omega), g6]
      · intro j hj
        rw [hk _ (by omega) (by omega) (by omega), g7 j hj]
