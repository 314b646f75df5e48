/-! the line of the car -/
def CG (f : Nat → Int32) (e Lb : Nat) (sRd sMo : MS) : Prop := RZ f e sRd sMo ∧ RD f e Lb sRd sMo ∧ sMo.1 13 = 0
theorem CG_k {f : Nat → Int32} {e Lb : Nat} {sRd sMo sRd' sMo' : MS} (h : CG f e Lb sRd sMo) (k : KD f e Lb sRd sMo sRd' sMo') : CG f e Lb sRd' sMo' := ⟨RZ_f h.1 k.2.1 k.2.2, k.1, (k.2.2.1 13 (by omega)).trans h.2.2⟩
theorem CG_a {f : Nat → Int32} {e Lb : Nat} {sRd sMo : MS} (h : CG f e Lb sRd sMo) (i : Nat) (v : Int32) : CG f e Lb sRd (sA sMo 16 i v) := ⟨RZ_c h.1 rfl (sA_n _ _ _ _ _ (by decide)), RD_c h.2.1 rfl (sA_n _ _ _ _ _ (by decide)), h.2.2⟩
theorem CG_g {f : Nat → Int32} {e Lb : Nat} {sRd sSp sMo : MS} (h : GD f e Lb sRd sSp sMo) : CG f e Lb sRd sMo := ⟨h.z, h.d, h.ok⟩
theorem bd_ok {β : Type} {o : Option (Int32 × MS)} {s : MS} {A B : Int32 × MS → Option β} (h : o = some (1, s)) : (bd o fun x => if x.1 = (0 : Int32) then A x else B x) = B (1, s) := by
  rw [h, bd_some]
  exact if_neg (by decide : ¬ (1 : Int32) = 0)
theorem bd_no {β : Type} {o : Option (Int32 × MS)} {s : MS} {A B : Int32 × MS → Option β} (h : o = some (0, s)) : (bd o fun x => if x.1 = (0 : Int32) then A x else B x) = A (0, s) := by
  rw [h, bd_some]
  exact if_pos rfl
theorem FT_a {S s : MS} (h1 : S.1 = s.1) (h2 : ∀ a, a ≠ 16 → S.2.2.1 a = s.2.2.1 a) : FT (some S) s := ⟨S, rfl, h1, h2⟩
theorem ST_comma {F : Nat} (hF : 1000 ≤ F) {f : Nat → Int32} {e Lb : Nat} {sRd sMo : MS} (G : CG f e Lb sRd sMo) : (∃ sRd' sMo', f_X7_passSign F 800 f (Int32.ofInt 44) sRd = some (1, sRd') ∧ f_X11_comma F sMo = some (Int32.ofInt 1, sMo') ∧ KD f e Lb sRd sMo sRd' sMo') ∨ (f_X7_passSign F 800 f (Int32.ofInt 44) sRd = some (0, faS sRd 1 (sRd.1 6)) ∧ f_X11_comma F sMo = some (Int32.ofInt 0, sMo)) := by
  obtain ⟨v, v1, v2⟩ := T_sign (F := F) G.1 G.2.1 (c := 44) (Or.inl rfl)
  unfold f_X7_passSign f_X11_comma
  rw [v1, bd_some, G.2.2, if_pos rfl]
  cases v with
  | true =>
    obtain ⟨R', M', n1, n2, n3, n4, n5⟩ := N_next hF G.1 G.2.1
    refine Or.inl ⟨R', M', ?_, ?_, n3, FRd_w n4, n5⟩
    · rw [if_neg (show ¬ bi true = 0 by decide), n1]; rfl
    · rw [if_pos (show sMo.1 6 = 44 from v2.1 rfl), n2]; rfl
  | false =>
    refine Or.inr ⟨?_, ?_⟩
    · rw [if_pos (show bi false = 0 from rfl), fail_e]; rfl
    · rw [if_neg (fun h => by have := v2.2 h; exact absurd this (by decide))]; rfl
theorem LN_car {F : Nat} (hF : 1000 ≤ F) {f : Nat → Int32} {e Lb : Nat} {sRd sSp sMo : MS} (G : GD f e Lb sRd sSp sMo) (h10 : sMo.2.2.1 16 10 = 0) : LN f e Lb (f_X7_readCar F 800 f sRd sSp) (f_X11_carLine_20 F sMo) sMo := by
  have h13 : sMo.1 13 = Int32.ofInt 0 := G.ok
  obtain ⟨R1, M1, n1, n2, n3, n4, n5⟩ := N_next hF G.z G.d
  have G1 : CG f e Lb R1 M1 := CG_k (CG_g G) ⟨n3, FRd_w n4, n5⟩
  have X1 : FX sMo M1 := FX_m n5
  rcases AFT hF G1.1 G1.2.1 G1.2.2 (lo := 1) (hi := 40) (by omega) (by omega) (by omega) (by omega) (p := 6) (by decide) with ⟨t, R2a, R2, M2, t1, t2, y1, y2, y3, y4, y5⟩ | ⟨R2, M2, y1, y2, y3, y4⟩
  rotate_left
  · have hb := y3.1
    refine Or.inr ⟨R2, sSp, M2, ?_, y3, FX_t X1 y4, ?_⟩
    · unfold f_X7_readCar
      rcases y1 with y1 | ⟨R2a, y1, y1'⟩
      · rw [n1, bd_some, bd_no y1]
      · have y1'' : f_X7_passWhole F 800 f 1 40 R2a = some (0, R2) := y1'
        rw [n1, bd_some, bd_ok y1, bd_no y1'']
    · unfold f_X11_carLine_20 f_X11_carLine_104
      simp (disch := first | omega | simp only [sA_1, hb]) only [z_0, z_1, z_2, z_3, z_4, z_5, z_6, z_7, z_8, z_9, z_10, z_11, z_12, z_14, z_18, z_20, z_22, z_24, z_32, z_38, z_40, z_41, z_44, z_48, z_49, z_57, z_59, z_60, z_63, z_65, z_74, z_75, z_81, z_97, z_99, z_104, z_115, z_119, z_122, z_200, z_209, z_210, z_219, z_228, z_255, z_300, z_369, z_999, z_65537, z_268435456, z_1000000000, n_nat, n_add, n_sub, n_mul, n_neg, n_lt, n_le, n_eq, n_ix, n_gd, n_nz, lz_t, bd_some, tn, Int.reduceToNat, tn_1, if_pos, if_neg, if_true, if_false, h13, n2, y2, B_after, B_number, B_wrong, sA_1, sA_g, hb]
      exact FT_a rfl (fun a ha => by simp (disch := exact ha) only [sA_n])
  have y2' : f_X7_passWhole F 800 f 1 40 R2a = some (1, R2) := y2
  have G2 : CG f e Lb R2 (sA M2 16 0 (Int32.ofInt t)) := CG_a (CG_k G1 y5) _ _
  have X2 : FX sMo (sA M2 16 0 (Int32.ofInt t)) := FX_t (FX_t X1 (FX_m y5.2.2)) (FX_a _ _ _)
  rcases AFT hF G2.1 G2.2.1 G2.2.2 (lo := 0) (hi := t) (by omega) (by omega) (by omega) (by omega) (p := 7) (by decide) with ⟨u, R3a, R3, M3, u1, u2, z1, z2, z3, z4, z5⟩ | ⟨R3, M3, z1, z2, z3, z4⟩
  rotate_left
  · have hb := z3.1
    refine Or.inr ⟨R3, sSp, M3, ?_, z3, FX_t X2 z4, ?_⟩
    · unfold f_X7_readCar
      rcases z1 with z1 | ⟨R3a, z1, z1'⟩
      · rw [n1, bd_some, bd_ok y1, bd_ok y2', bd_no z1]
      · have z1'' : f_X7_passWhole F 800 f 0 (R2.1 8) R3a = some (0, R3) := by rw [y3]; exact z1'
        rw [n1, bd_some, bd_ok y1, bd_ok y2', bd_ok z1, bd_no z1'']
    · unfold f_X11_carLine_20 f_X11_carLine_104
      simp (disch := first | omega | simp only [sA_1, hb]) only [z_0, z_1, z_2, z_3, z_4, z_5, z_6, z_7, z_8, z_9, z_10, z_11, z_12, z_14, z_18, z_20, z_22, z_24, z_32, z_38, z_40, z_41, z_44, z_48, z_49, z_57, z_59, z_60, z_63, z_65, z_74, z_75, z_81, z_97, z_99, z_104, z_115, z_119, z_122, z_200, z_209, z_210, z_219, z_228, z_255, z_300, z_369, z_999, z_65537, z_268435456, z_1000000000, n_nat, n_add, n_sub, n_mul, n_neg, n_lt, n_le, n_eq, n_ix, n_gd, n_nz, lz_t, bd_some, tn, Int.reduceToNat, tn_1, if_pos, if_neg, if_true, if_false, h13, n2, y4, sA_g, z2, B_after, B_number, B_wrong, sA_1, hb]
      exact FT_a rfl (fun a ha => by simp (disch := exact ha) only [sA_n])
  have z2' : f_X7_passWhole F 800 f 0 (R2.1 8) R3a = some (1, R3) := by rw [y3]; exact z2
  have G3 : CG f e Lb R3 (sA M3 16 1 (Int32.ofInt u)) := CG_a (CG_k G2 z5) _ _
  have X3 : FX sMo (sA M3 16 1 (Int32.ofInt u)) := FX_t (FX_t X2 (FX_m z5.2.2)) (FX_a _ _ _)
  rcases AFT hF G3.1 G3.2.1 G3.2.2 (lo := 0) (hi := 99) (by omega) (by omega) (by omega) (by omega) (p := 8) (by decide) with ⟨w, R4a, R4, M4, w1, w2, a1, a2, a3, a4, a5⟩ | ⟨R4, M4, a1, a2, a3, a4⟩
  rotate_left
  · have hb := a3.1
    refine Or.inr ⟨R4, sI sSp 1 (R3.1 8), M4, ?_, a3, FX_t X3 a4, ?_⟩
    · unfold f_X7_readCar
      rcases a1 with a1 | ⟨R4a, a1, a1'⟩
      · rw [n1, bd_some, bd_ok y1, bd_ok y2', bd_ok z1, bd_ok z2', lz_t, bd_no a1]
      · have a1'' : f_X7_passWhole F 800 f 0 99 R4a = some (0, R4) := a1'
        rw [n1, bd_some, bd_ok y1, bd_ok y2', bd_ok z1, bd_ok z2', lz_t, bd_ok a1, bd_no a1'']
    · unfold f_X11_carLine_20 f_X11_carLine_104
      simp (disch := first | omega | simp only [sA_1, hb]) only [z_0, z_1, z_2, z_3, z_4, z_5, z_6, z_7, z_8, z_9, z_10, z_11, z_12, z_14, z_18, z_20, z_22, z_24, z_32, z_38, z_40, z_41, z_44, z_48, z_49, z_57, z_59, z_60, z_63, z_65, z_74, z_75, z_81, z_97, z_99, z_104, z_115, z_119, z_122, z_200, z_209, z_210, z_219, z_228, z_255, z_300, z_369, z_999, z_65537, z_268435456, z_1000000000, n_nat, n_add, n_sub, n_mul, n_neg, n_lt, n_le, n_eq, n_ix, n_gd, n_nz, lz_t, bd_some, tn, Int.reduceToNat, tn_1, if_pos, if_neg, if_true, if_false, h13, n2, y4, sA_g, z4, a2, B_after, B_number, B_wrong, sA_1, hb]
      exact FT_a rfl (fun a ha => by simp (disch := exact ha) only [sA_n])
  have a2' : f_X7_passWhole F 800 f 0 99 R4a = some (1, R4) := a2
  have G4 : CG f e Lb R4 (sA M4 16 2 (Int32.ofInt w)) := CG_a (CG_k G3 a5) _ _
  have X4 : FX sMo (sA M4 16 2 (Int32.ofInt w)) := FX_t (FX_t X3 (FX_m a5.2.2)) (FX_a _ _ _)
  have k13 : M4.1 13 = Int32.ofInt 0 := G4.2.2
  rcases ST_comma hF G4 with ⟨R5, M5, b1, b2, b3⟩ | ⟨b1, b2⟩
  rotate_left
  · have e4 := RD_46 G4.2.1
    have e13 := wrS_13 (sA M4 16 2 (Int32.ofInt w)) 1 ((sA M4 16 2 (Int32.ofInt w)).1 4)
    have ew := wrong_e (F := F) 1 ((sA M4 16 2 (Int32.ofInt w)).1 4) (s := sA M4 16 2 (Int32.ofInt w)) G4.2.2
    refine Or.inr ⟨faS R4 1 (R4.1 6), sI (sI sSp 1 (R3.1 8)) 2 (R4.1 8), wrS (sA M4 16 2 (Int32.ofInt w)) 1 ((sA M4 16 2 (Int32.ofInt w)).1 4), ?_, ?_, FX_t X4 (FX_w _ _ _), ?_⟩
    · unfold f_X7_readCar
      have b1' : f_X7_passSign F 800 f 44 R4 = some (0, faS R4 1 (R4.1 6)) := b1
      rw [n1, bd_some, bd_ok y1, bd_ok y2', bd_ok z1, bd_ok z2', lz_t, bd_ok a1, bd_ok a2', lz_t, bd_no b1']
    · rw [e4]; exact BAD_w _ _ _ _
    · unfold f_X11_carLine_20 f_X11_carLine_104
      rw [sA_1] at ew e13
      generalize hW : wrS (sA M4 16 2 (Int32.ofInt w)) 1 (M4.1 4) = W at *
      rw [show wrS (sA M4 16 2 (Int32.ofInt w)) 1 ((sA M4 16 2 (Int32.ofInt w)).1 4) = W from hW]
      rw [z_1] at ew
      simp (disch := first | omega | simp only [sA_1, e13]) only [z_0, z_1, z_2, z_3, z_4, z_5, z_6, z_7, z_8, z_9, z_10, z_11, z_12, z_14, z_18, z_20, z_22, z_24, z_32, z_38, z_40, z_41, z_44, z_48, z_49, z_57, z_59, z_60, z_63, z_65, z_74, z_75, z_81, z_97, z_99, z_104, z_115, z_119, z_122, z_200, z_209, z_210, z_219, z_228, z_255, z_300, z_369, z_999, z_65537, z_268435456, z_1000000000, n_nat, n_add, n_sub, n_mul, n_neg, n_lt, n_le, n_eq, n_ix, n_gd, n_nz, lz_t, bd_some, tn, Int.reduceToNat, tn_1, if_pos, if_neg, if_true, if_false, h13, n2, y4, sA_g, z4, a4, k13, b2, ew, B_after, B_number, sA_1, e13]
      exact FT_a rfl (fun a ha => by simp (disch := exact ha) only [sA_n])
  have b1' : f_X7_passSign F 800 f 44 R4 = some (1, R5) := b1
  have G5 : CG f e Lb R5 M5 := CG_k G4 b3
  have X5 : FX sMo M5 := FX_t X4 (FX_m b3.2.2)
  rcases ST_whole hF G5.1 G5.2.1 G5.2.2 (lo := 0) (hi := 60) (by omega) (by omega) (by omega) (by omega) with ⟨x, R6, M6, x1, x2, c1, c2, c3, c4⟩ | ⟨R6, M6, c1, c2, c3, c4⟩
  rotate_left
  · have hb := c3.1
    refine Or.inr ⟨R6, sI (sI sSp 1 (R3.1 8)) 2 (R4.1 8), M6, ?_, c3, FX_t X5 c4, ?_⟩
    · unfold f_X7_readCar
      have c1' : f_X7_passWhole F 800 f 0 60 R5 = some (0, R6) := c1
      rw [n1, bd_some, bd_ok y1, bd_ok y2', bd_ok z1, bd_ok z2', lz_t, bd_ok a1, bd_ok a2', lz_t, bd_ok b1', bd_no c1']
    · unfold f_X11_carLine_20 f_X11_carLine_104
      simp (disch := first | omega | simp only [sA_1, hb]) only [z_0, z_1, z_2, z_3, z_4, z_5, z_6, z_7, z_8, z_9, z_10, z_11, z_12, z_14, z_18, z_20, z_22, z_24, z_32, z_38, z_40, z_41, z_44, z_48, z_49, z_57, z_59, z_60, z_63, z_65, z_74, z_75, z_81, z_97, z_99, z_104, z_115, z_119, z_122, z_200, z_209, z_210, z_219, z_228, z_255, z_300, z_369, z_999, z_65537, z_268435456, z_1000000000, n_nat, n_add, n_sub, n_mul, n_neg, n_lt, n_le, n_eq, n_ix, n_gd, n_nz, lz_t, bd_some, tn, Int.reduceToNat, tn_1, if_pos, if_neg, if_true, if_false, h13, n2, y4, sA_g, z4, a4, k13, b2, c2, B_after, B_number, B_wrong, sA_1, hb]
      exact FT_a rfl (fun a ha => by simp (disch := exact ha) only [sA_n])
  have c1' : f_X7_passWhole F 800 f 0 60 R5 = some (1, R6) := c1
  have G6 : CG f e Lb R6 (sA M6 16 3 (Int32.ofInt x)) := CG_a (CG_k G5 c4) _ _
  have X6 : FX sMo (sA M6 16 3 (Int32.ofInt x)) := FX_t (FX_t X5 (FX_m c4.2.2)) (FX_a _ _ _)
  rcases AFT hF G6.1 G6.2.1 G6.2.2 (lo := 0) (hi := 999) (by omega) (by omega) (by omega) (by omega) (p := 9) (by decide) with ⟨q, R7a, R7, M7, q1, q2, d1, d2, d3, d4, d5⟩ | ⟨R7, M7, d1, d2, d3, d4⟩
  rotate_left
  · have hb := d3.1
    refine Or.inr ⟨R7, sI (sI (sI sSp 1 (R3.1 8)) 2 (R4.1 8)) 3 (R6.1 8), M7, ?_, d3, FX_t X6 d4, ?_⟩
    · unfold f_X7_readCar
      rcases d1 with d1 | ⟨R7a, d1, d1'⟩
      · rw [n1, bd_some, bd_ok y1, bd_ok y2', bd_ok z1, bd_ok z2', lz_t, bd_ok a1, bd_ok a2', lz_t, bd_ok b1', bd_ok c1', lz_t, bd_no d1]
      · have d1'' : f_X7_passWhole F 800 f 0 999 R7a = some (0, R7) := d1'
        rw [n1, bd_some, bd_ok y1, bd_ok y2', bd_ok z1, bd_ok z2', lz_t, bd_ok a1, bd_ok a2', lz_t, bd_ok b1', bd_ok c1', lz_t, bd_ok d1, bd_no d1'']
    · unfold f_X11_carLine_20 f_X11_carLine_104
      simp (disch := first | omega | simp only [sA_1, hb]) only [z_0, z_1, z_2, z_3, z_4, z_5, z_6, z_7, z_8, z_9, z_10, z_11, z_12, z_14, z_18, z_20, z_22, z_24, z_32, z_38, z_40, z_41, z_44, z_48, z_49, z_57, z_59, z_60, z_63, z_65, z_74, z_75, z_81, z_97, z_99, z_104, z_115, z_119, z_122, z_200, z_209, z_210, z_219, z_228, z_255, z_300, z_369, z_999, z_65537, z_268435456, z_1000000000, n_nat, n_add, n_sub, n_mul, n_neg, n_lt, n_le, n_eq, n_ix, n_gd, n_nz, lz_t, bd_some, tn, Int.reduceToNat, tn_1, if_pos, if_neg, if_true, if_false, h13, n2, y4, sA_g, z4, a4, k13, b2, c3, d2, B_after, B_number, B_wrong, sA_1, hb]
      exact FT_a rfl (fun a ha => by simp (disch := exact ha) only [sA_n])
  have d2' : f_X7_passWhole F 800 f 0 999 R7a = some (1, R7) := d2
  have G7 : CG f e Lb R7 (sA (sA M7 16 4 (Int32.ofInt q)) 16 10 (Int32.ofInt 1)) := CG_a (CG_a (CG_k G6 d5) _ _) _ _
  have X7 : FX sMo (sA (sA M7 16 4 (Int32.ofInt q)) 16 10 (Int32.ofInt 1)) := FX_t (FX_t X6 (FX_m d5.2.2)) (FX_t (FX_a _ _ _) (FX_a _ _ _))
  have j13 : M7.1 13 = Int32.ofInt 0 := G7.2.2
  have W : FRw sRd R7 := FRw_t (FRw_t (FRw_t (FRw_t (FRw_t (FRw_t (FRd_w n4) y5.2.1) z5.2.1) a5.2.1) b3.2.1) c4.2.1) d5.2.1
  have e9 : (sA (sA M7 16 4 (Int32.ofInt q)) 16 10 (Int32.ofInt 1)).1 9 = sMo.1 9 := by
    rw [sA_1, sA_1, d5.2.2.1 9 (by omega), sA_1, c4.2.2.1 9 (by omega), b3.2.2.1 9 (by omega), sA_1, a5.2.2.1 9 (by omega), sA_1, z5.2.2.1 9 (by omega), sA_1, y5.2.2.1 9 (by omega), n5.1 9 (by omega)]
  have eR : (sA (sA M7 16 4 (Int32.ofInt q)) 16 10 (Int32.ofInt 1)).2.2.1 16 = upd (upd (upd (upd (upd (upd (sMo.2.2.1 16) 0 (Int32.ofInt t)) 1 (Int32.ofInt u)) 2 (Int32.ofInt w)) 3 (Int32.ofInt x)) 4 (Int32.ofInt q)) 10 (Int32.ofInt 1) := by
    rw [sA_u, sA_u, d5.2.2.2 16 (by decide), sA_u, c4.2.2.2 16 (by decide), b3.2.2.2 16 (by decide), sA_u, a5.2.2.2 16 (by decide), sA_u, z5.2.2.2 16 (by decide), sA_u, y5.2.2.2 16 (by decide), n5.2 16 (by decide)]
  have pk := G.pk
  have rp := G.rp
  have z0 : ∀ k, k < 10 → sMo.2.2.1 16 k = 0 := by
    rcases pk.ca with ⟨-, h⟩ | ⟨h, -⟩
    · exact h
    · rw [h10] at h; exact absurd h (by decide)
  refine Or.inl ⟨R7, sI (sI (sI (sI (sI sSp 1 (Int32.ofInt u)) 2 (Int32.ofInt w)) 3 (Int32.ofInt x)) 4 (Int32.ofInt q)) 0 (Int32.ofInt t), sA (sA M7 16 4 (Int32.ofInt q)) 16 10 (Int32.ofInt 1), ?_, ?_, ⟨G7.1, G7.2.1, G7.2.2, e9.trans G.no, (W.1 0 (by omega)).trans G.f0, (W.1 1 (by omega)).trans G.f1, ?_, ?_, ?_⟩, X7⟩
  · unfold f_X7_readCar
    rw [n1, bd_some, bd_ok y1, bd_ok y2', bd_ok z1, bd_ok z2', lz_t, bd_ok a1, bd_ok a2', lz_t, bd_ok b1', bd_ok c1', lz_t, bd_ok d1, bd_ok d2', lz_t, lz_t]
    show some (1, R7, sI (sI (sI (sI (sI sSp 1 (R3.1 8)) 2 (R4.1 8)) 3 (R6.1 8)) 4 (R7.1 8)) 0 (R2.1 8)) = _
    rw [z3, a3, c2, d3, y3]
  · unfold f_X11_carLine_20 f_X11_carLine_104
    simp (disch := omega) only [z_0, z_1, z_2, z_3, z_4, z_5, z_6, z_7, z_8, z_9, z_10, z_11, z_12, z_14, z_18, z_20, z_22, z_24, z_32, z_38, z_40, z_41, z_44, z_48, z_49, z_57, z_59, z_60, z_63, z_65, z_74, z_75, z_81, z_97, z_99, z_104, z_115, z_119, z_122, z_200, z_209, z_210, z_219, z_228, z_255, z_300, z_369, z_999, z_65537, z_268435456, z_1000000000, n_nat, n_add, n_sub, n_mul, n_neg, n_lt, n_le, n_eq, n_ix, n_gd, n_nz, lz_t, bd_some, tn, Int.reduceToNat, tn_1, if_pos, if_neg, if_true, if_false, h13, n2, y4, sA_g, z4, a4, k13, b2, c3, d4, sA_1, j13]
  · rw [eR]
    generalize hr : sMo.2.2.1 16 = r at *
    have hk : ∀ k, 5 ≤ k → k ≠ 10 → upd (upd (upd (upd (upd (upd r 0 (Int32.ofInt t)) 1 (Int32.ofInt u)) 2 (Int32.ofInt w)) 3 (Int32.ofInt x)) 4 (Int32.ofInt q)) 10 (Int32.ofInt 1) k = r k := by
      intro k h1 h2
      rw [up_n _ _ _ _ (by omega), up_n _ _ _ _ (by omega), up_n _ _ _ _ (by omega), up_n _ _ _ _ (by omega), up_n _ _ _ _ (by omega), up_n _ _ _ _ (by omega)]
    have g0 : upd (upd (upd (upd (upd (upd r 0 (Int32.ofInt t)) 1 (Int32.ofInt u)) 2 (Int32.ofInt w)) 3 (Int32.ofInt x)) 4 (Int32.ofInt q)) 10 (Int32.ofInt 1) 0 = Int32.ofInt t := by simp (disch := omega) only [up_s, up_n]
    have g1 : upd (upd (upd (upd (upd (upd r 0 (Int32.ofInt t)) 1 (Int32.ofInt u)) 2 (Int32.ofInt w)) 3 (Int32.ofInt x)) 4 (Int32.ofInt q)) 10 (Int32.ofInt 1) 1 = Int32.ofInt u := by simp (disch := omega) only [up_s, up_n]
    have g2 : upd (upd (upd (upd (upd (upd r 0 (Int32.ofInt t)) 1 (Int32.ofInt u)) 2 (Int32.ofInt w)) 3 (Int32.ofInt x)) 4 (Int32.ofInt q)) 10 (Int32.ofInt 1) 2 = Int32.ofInt w := by simp (disch := omega) only [up_s, up_n]
    have g3 : upd (upd (upd (upd (upd (upd r 0 (Int32.ofInt t)) 1 (Int32.ofInt u)) 2 (Int32.ofInt w)) 3 (Int32.ofInt x)) 4 (Int32.ofInt q)) 10 (Int32.ofInt 1) 3 = Int32.ofInt x := by simp (disch := omega) only [up_s, up_n]
    have g4 : upd (upd (upd (upd (upd (upd r 0 (Int32.ofInt t)) 1 (Int32.ofInt u)) 2 (Int32.ofInt w)) 3 (Int32.ofInt x)) 4 (Int32.ofInt q)) 10 (Int32.ofInt 1) 4 = Int32.ofInt q := by simp (disch := omega) only [up_s, up_n]
    have g10 : upd (upd (upd (upd (upd (upd r 0 (Int32.ofInt t)) 1 (Int32.ofInt u)) 2 (Int32.ofInt w)) 3 (Int32.ofInt x)) 4 (Int32.ofInt q)) 10 (Int32.ofInt 1) 10 = Int32.ofInt 1 := up_s _ _ _
    generalize upd (upd (upd (upd (upd (upd r 0 (Int32.ofInt t)) 1 (Int32.ofInt u)) 2 (Int32.ofInt w)) 3 (Int32.ofInt x)) 4 (Int32.ofInt q)) 10 (Int32.ofInt 1) = r' at *
    refine ⟨Or.inr ⟨g10, ?_, ?_, ?_, ?_, ?_⟩, ?_, RoK_c (fun k _ => hk _ (by omega) (by omega)) (by rw [hk 5 (by omega) (by omega)]; exact Int.le_refl _) pk.ro, MiK_c (fun k _ => hk _ (by omega) (by omega)) pk.mi, PuK_c (fun k _ => hk _ (by omega) (by omega)) pk.pu, WyK_c (hk 8 (by omega) (by omega)) (by rw [z0 8 (by omega)]; decide) (fun k _ => hk _ (by omega) (by omega)) (fun k _ h => by rw [hk _ (by omega) (by omega)]; exact h) (by rw [hk 5 (by omega) (by omega)]; exact Int.le_refl _) (by rw [z0 5 (by omega)]; decide) pk.wy, ReK_c (hk 9 (by omega) (by omega)) (by rw [z0 9 (by omega)]; decide) (fun k _ => hk _ (by omega) (by omega)) (fun k _ h => by rw [hk _ (by omega) (by omega)]; exact h) (by rw [hk 5 (by omega) (by omega)]; exact Int.le_refl _) (by rw [z0 5 (by omega)]; decide) pk.re⟩
    · rw [g0, n_toI _ (by omega) (by omega)]; omega
    · rw [g0, g1, n_toI _ (by omega) (by omega), n_toI _ (by omega) (by omega)]; omega
    · rw [g2, n_toI _ (by omega) (by omega)]; omega
    · rw [g3, n_toI _ (by omega) (by omega)]; omega
    · rw [g4, n_toI _ (by omega) (by omega)]; omega
    · have := pk.nu
      unfold NuK at *
      rw [hk 5 (by omega) (by omega), hk 6 (by omega) (by omega), hk 7 (by omega) (by omega), hk 8 (by omega) (by omega), hk 9 (by omega) (by omega)]
      exact this
  · rw [eR]
    generalize hr : sMo.2.2.1 16 = r at *
    have hk : ∀ k, 5 ≤ k → k ≠ 10 → upd (upd (upd (upd (upd (upd r 0 (Int32.ofInt t)) 1 (Int32.ofInt u)) 2 (Int32.ofInt w)) 3 (Int32.ofInt x)) 4 (Int32.ofInt q)) 10 (Int32.ofInt 1) k = r k := by
      intro k h1 h2
      rw [up_n _ _ _ _ (by omega), up_n _ _ _ _ (by omega), up_n _ _ _ _ (by omega), up_n _ _ _ _ (by omega), up_n _ _ _ _ (by omega), up_n _ _ _ _ (by omega)]
    refine ⟨?_, fun k hk' => by rw [hk _ (by omega) (by omega)]; exact rp.pin k hk', fun k hk' => by rw [hk _ (by omega) (by omega)]; exact rp.min k hk', fun p hp => by rw [hk _ (by omega) (by omega), hk _ (by omega) (by omega), hk _ (by omega) (by omega)]; exact rp.pum p hp, fun i hi => ?_, fun hi => ?_, fun i hi => ?_, fun i hi => ?_⟩
    · intro k hk'
      have : k = 0 ∨ k = 1 ∨ k = 2 ∨ k = 3 ∨ k = 4 ∨ 5 ≤ k := by omega
      rcases this with rfl | rfl | rfl | rfl | rfl | h5
      · simp (disch := omega) only [sI_s, sI_n, up_s, up_n]
      · simp (disch := omega) only [sI_s, sI_n, up_s, up_n]
      · simp (disch := omega) only [sI_s, sI_n, up_s, up_n]
      · simp (disch := omega) only [sI_s, sI_n, up_s, up_n]
      · simp (disch := omega) only [sI_s, sI_n, up_s, up_n]
      · rw [hk _ h5 (by omega), sI_n _ _ _ _ (by omega), sI_n _ _ _ _ (by omega), sI_n _ _ _ _ (by omega), sI_n _ _ _ _ (by omega), sI_n _ _ _ _ (by omega)]
        exact rp.num k hk'
    · rw [hk 8 (by omega) (by omega), z0 8 (by omega)] at hi
      have h0 : (0 : Int32).toInt = 0 := rfl
      omega
    · rw [hk 8 (by omega) (by omega), z0 8 (by omega)] at hi
      have h0 : (0 : Int32).toInt = 0 := rfl
      omega
    · rw [hk 8 (by omega) (by omega), z0 8 (by omega)] at hi
      have h0 : (0 : Int32).toInt = 0 := rfl
      omega
    · rw [hk 9 (by omega) (by omega), z0 9 (by omega)] at hi
      have h0 : (0 : Int32).toInt = 0 := rfl
      omega
  · intro n hn
    rw [eR, up_n _ _ _ _ (by omega), up_n _ _ _ _ (by omega), up_n _ _ _ _ (by omega), up_n _ _ _ _ (by omega), up_n _ _ _ _ (by omega), up_n _ _ _ _ (by omega), z0 5 (by omega)] at hn
    have h0 : (0 : Int32).toInt = 0 := rfl
    omega
