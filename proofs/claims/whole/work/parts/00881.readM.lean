/-! the line of a pump -/
theorem nh_cases {F : Nat} {s : MS} {a b : Int32} (h : s.1 13 = 0) : f_X11_numberHere F a b s = some (s.1 7, s) ∨ ∃ c, f_X11_numberHere F a b s = some (a, wrS s c (s.1 4)) := by
  unfold f_X11_numberHere f_X11_numberHere_50
  rw [h, if_pos rfl]
  by_cases c : s.1 6 = 3
  · rw [if_pos c]
    unfold f_X11_in
    split
    · refine Or.inr ⟨4, ?_⟩
      rw [bd_some, if_pos rfl, wrong_e _ _ h, bd_some, wrS_13, if_neg (by decide)]
    · split
      · refine Or.inr ⟨4, ?_⟩
        rw [bd_some, if_pos rfl, wrong_e _ _ h, bd_some, wrS_13, if_neg (by decide)]
      · refine Or.inl ?_
        rw [bd_some, if_neg (by decide), if_pos rfl]
  · rw [if_neg c]
    refine Or.inr ⟨1, ?_⟩
    rw [wrong_e _ _ h, bd_some, wrS_13, if_neg (by decide)]
theorem ST_here {F : Nat} (hF : 1000 ≤ F) {f : Nat → Int32} {e Lb : Nat} {sRd sMo : MS} (hE : RZ f e sRd sMo) (hD : RD f e Lb sRd sMo) (h13 : sMo.1 13 = 0) {lo hi : Int} (l1 : 0 ≤ lo) (l2 : lo ≤ 1) (l3 : 0 ≤ hi) (l4 : hi ≤ 999) : (∃ (v : Int) (sRd' sMo' : MS), lo ≤ v ∧ v ≤ hi ∧ f_X7_passWhole F 800 f (Int32.ofInt lo) (Int32.ofInt hi) sRd = some (1, sRd') ∧ sRd'.1 8 = Int32.ofInt v ∧ f_X11_numberHere F (Int32.ofInt lo) (Int32.ofInt hi) sMo = some (Int32.ofInt v, sMo) ∧ f_X11_next F sMo = some sMo' ∧ KD f e Lb sRd sMo sRd' sMo') ∨ (∃ sRd' sMo', f_X7_passWhole F 800 f (Int32.ofInt lo) (Int32.ofInt hi) sRd = some (0, sRd') ∧ f_X11_numberHere F (Int32.ofInt lo) (Int32.ofInt hi) sMo = some (Int32.ofInt lo, sMo') ∧ BAD sRd' sMo' ∧ FX sMo sMo') := by
  obtain ⟨R0, M0, n1, n2, n3, n4, n5⟩ := N_next hF hE hD
  have N1 : f_X11_numberHere F (Int32.ofInt lo) (Int32.ofInt hi) sMo = some (sMo.1 7, sMo) → f_X11_number F (Int32.ofInt lo) (Int32.ofInt hi) sMo = some (sMo.1 7, M0) := by
    intro h
    unfold f_X11_number
    rw [h, bd_some, h13, if_pos rfl, n2]; rfl
  have N2 : ∀ c, f_X11_numberHere F (Int32.ofInt lo) (Int32.ofInt hi) sMo = some (Int32.ofInt lo, wrS sMo c (sMo.1 4)) → f_X11_number F (Int32.ofInt lo) (Int32.ofInt hi) sMo = some (Int32.ofInt lo, wrS sMo c (sMo.1 4)) := by
    intro c h
    unfold f_X11_number
    rw [h, bd_some, wrS_13, if_neg (by decide)]
  rcases ST_whole hF hE hD h13 l1 l2 l3 l4 with ⟨v, R', M', v1, v2, c1, c2, c3, c4⟩ | ⟨R', M', c1, c2, c3, c4⟩
  · rcases nh_cases (F := F) (a := Int32.ofInt lo) (b := Int32.ofInt hi) h13 with g | ⟨c, g⟩
    · have := (N1 g).symm.trans c3
      injection this with this
      injection this with g1 g2
      subst g2
      exact Or.inl ⟨v, R', M0, v1, v2, c1, c2, by rw [g, g1], n2, c4⟩
    · have := (N2 c g).symm.trans c3
      injection this with this
      injection this with g1 g2
      have k := (c4.2.2.1 13 (by omega)).trans h13
      rw [← g2, wrS_13] at k
      exact absurd k (by decide)
  · rcases nh_cases (F := F) (a := Int32.ofInt lo) (b := Int32.ofInt hi) h13 with g | ⟨c, g⟩
    · have := (N1 g).symm.trans c2
      injection this with this
      injection this with g1 g2
      have k := (n5.1 13 (by omega)).trans h13
      rw [g2, c3.1] at k
      exact absurd k (by decide)
    · have := (N2 c g).symm.trans c2
      injection this with this
      injection this with g1 g2
      exact Or.inr ⟨R', M', c1, by rw [g, g2], c3, c4⟩
theorem LN_pumpT {F : Nat} (hF : 1000 ≤ F) {f : Nat → Int32} {e Lb : Nat} {sRd sSp sP M sMo : MS} (G : GD f e Lb sRd sSp M) {N z : Nat} {A B : Int} (hN : (M.2.2.1 16 5).toInt = N) (N9 : N ≤ 9) (h10 : M.2.2.1 16 10 = 1) (h7 : (M.2.2.1 16 7).toInt < 8) (hz : z < N) (A1 : 1 ≤ A) (A2 : A ≤ 99) (B1 : 0 ≤ B) (B2 : B ≤ 99) (X : FX sMo M) (s1 : sP.1 = sSp.1) (s12 : sP.2.2.1 12 = upd (sSp.2.2.1 12) z (Int32.ofInt A)) (s13 : sP.2.2.1 13 = upd (sSp.2.2.1 13) z (Int32.ofInt B)) (sn : ∀ a, a ≠ 12 → a ≠ 13 → sP.2.2.1 a = sSp.2.2.1 a) : LN f e Lb (f_X7_readPump_140 F 800 f (Int32.ofInt (z : Int)) sRd sP) (f_X11_pumpLine_121 F (Int32.ofInt ((11 + 3 * z : Nat) : Int)) (Int32.ofInt A) (Int32.ofInt B) M) sMo := by
  have pk := G.pk
  have rp := G.rp
  have nm := G.nm
  obtain ⟨w, hw⟩ := toN pk.nu.2.2.1.1
  have r7 : M.2.2.1 16 7 = Int32.ofInt (w : Int) := by rw [← hw]; exact n_out _
  rw [hw] at h7
  have s7 : sSp.1 7 = Int32.ofInt (w : Int) := (rp.num 7 (by omega)).trans r7
  have w1 : (w : Int) + 1 = ((w + 1 : Nat) : Int) := by omega
  have i12 : ((11 + 3 * z : Nat) : Int) + 1 = ((12 + 3 * z : Nat) : Int) := by omega
  have i13 : ((11 + 3 * z : Nat) : Int) + 2 = ((13 + 3 * z : Nat) : Int) := by omega
  unfold f_X7_readPump_140 f_X11_pumpLine_121
  rcases AFT hF G.z G.d G.ok (lo := 0) (hi := 9) (by omega) (by omega) (by omega) (by omega) (p := 14) (by decide) with ⟨C, R2a, R2, M2, C1, C2, y1, y2, y3, y4, y5⟩ | ⟨R2, M2, y1, y2, y3, y4⟩
  rotate_left
  · have hb := y3.1
    refine Or.inr ⟨R2, sP, M2, ?_, y3, FX_t X y4, ?_⟩
    · rcases y1 with y1 | ⟨R2a, y1, y1'⟩
      · rw [bd_no y1]
      · have y1'' : f_X7_passWhole F 800 f 0 9 R2a = some (0, R2) := y1'
        rw [bd_ok y1, bd_no y1'']
    · simp (disch := omega) only [z_0, z_1, z_2, z_3, z_4, z_5, z_6, z_7, z_8, z_9, z_10, z_11, z_12, z_14, z_18, z_20, z_22, z_24, z_32, z_38, z_40, z_41, z_44, z_48, z_49, z_57, z_59, z_60, z_63, z_65, z_74, z_75, z_81, z_97, z_99, z_104, z_115, z_119, z_122, z_200, z_209, z_210, z_219, z_228, z_255, z_300, z_369, z_999, z_65537, z_268435456, z_1000000000, n_nat, n_add, n_sub, n_mul, n_neg, n_lt, n_le, n_eq, n_ix, n_gd, n_nz, lz_t, bd_some, tn, Int.reduceToNat, tn_1, if_pos, if_neg, if_true, if_false, y2, hb]
      exact FT_r _
  have y2' : f_X7_passWhole F 800 f 0 9 R2a = some (1, R2) := y2
  have G2 := CG_k (CG_g G) y5
  have k2 : M2.1 13 = Int32.ofInt 0 := G2.2.2
  have e2 : M2.2.2.1 16 = M.2.2.1 16 := y5.2.2.2 16 (by decide)
  have t7 : (sA (sA (sA M2 16 (11 + 3 * z) (Int32.ofInt A)) 16 (12 + 3 * z) (Int32.ofInt B)) 16 (13 + 3 * z) (Int32.ofInt C)).2.2.1 16 7 = Int32.ofInt (w : Int) := by
    rw [sA_u, sA_u, sA_u, up_n _ _ _ _ (by omega), up_n _ _ _ _ (by omega), up_n _ _ _ _ (by omega), e2, r7]
  have s7' : sP.1 7 = Int32.ofInt (w : Int) := by rw [s1, s7]
  have cls : (bd (f_X7_passWord F 800 f 14 sRd) fun o29 => if o29.1 = (0 : Int32) then (some ((0 : Int32), o29.2, sP)) else (bd (f_X7_passWhole F 800 f (0 : Int32) (9 : Int32) o29.2) fun o31 => if o31.1 = (0 : Int32) then (some ((0 : Int32), o31.2, sP)) else (gd (vpb (Int32.ofInt (z : Int)) 9) <| lz (sA sP 14 (Int32.ofInt (z : Int)).toNatClampNeg (o31.2.1 8)) fun s34 => lz ((s34.1 7) + (1 : Int32)) fun v35 => lz (sI s34 7 v35) fun s36 => some ((1 : Int32), o31.2, s36)))) = some (1, R2, sI (sA sP 14 z (Int32.ofInt C)) 7 (Int32.ofInt ((w + 1 : Nat) : Int))) := by
    rw [bd_ok y1, bd_ok y2']
    simp (disch := omega) only [z_0, z_1, z_2, z_3, z_4, z_5, z_6, z_7, z_8, z_9, z_10, z_11, z_12, z_14, z_18, z_20, z_22, z_24, z_32, z_38, z_40, z_41, z_44, z_48, z_49, z_57, z_59, z_60, z_63, z_65, z_74, z_75, z_81, z_97, z_99, z_104, z_115, z_119, z_122, z_200, z_209, z_210, z_219, z_228, z_255, z_300, z_369, z_999, z_65537, z_268435456, z_1000000000, n_nat, n_add, n_sub, n_mul, n_neg, n_lt, n_le, n_eq, n_ix, n_gd, n_nz, lz_t, bd_some, tn, Int.reduceToNat, tn_1, if_pos, if_neg, if_true, if_false, y3, sA_1, s7', w1]
  have ref : (bd (f_X11_after F (0 : Int32) (9 : Int32) 14 M) fun o20 => if (o20.2.1 13) = (0 : Int32) then (gd (vpb (Int32.ofInt ((11 + 3 * z : Nat) : Int)) 300) <| lz (sA o20.2 16 (Int32.ofInt ((11 + 3 * z : Nat) : Int)).toNatClampNeg (Int32.ofInt A)) fun s23 => gd (vpb (Int32.ofInt ((11 + 3 * z : Nat) : Int) + (1 : Int32)) 300) <| lz (sA s23 16 ((Int32.ofInt ((11 + 3 * z : Nat) : Int) + (1 : Int32)).toNatClampNeg) (Int32.ofInt B)) fun s25 => gd (vpb (Int32.ofInt ((11 + 3 * z : Nat) : Int) + (2 : Int32)) 300) <| lz (sA s25 16 ((Int32.ofInt ((11 + 3 * z : Nat) : Int) + (2 : Int32)).toNatClampNeg) o20.1) fun s27 => gd (vpb (7 : Int32) 300) <| lz (s27.2.2.1 16 (7 : Int32).toNatClampNeg) fun v29 => gd (vpb (7 : Int32) 300) <| lz (sA s27 16 ((7 : Int32).toNatClampNeg) (v29 + (1 : Int32))) fun s31 => some s31) else (some o20.2)) = some (sA (sA (sA (sA M2 16 (11 + 3 * z) (Int32.ofInt A)) 16 (12 + 3 * z) (Int32.ofInt B)) 16 (13 + 3 * z) (Int32.ofInt C)) 16 7 (Int32.ofInt ((w + 1 : Nat) : Int))) := by
    simp (disch := omega) only [z_0, z_1, z_2, z_3, z_4, z_5, z_6, z_7, z_8, z_9, z_10, z_11, z_12, z_14, z_18, z_20, z_22, z_24, z_32, z_38, z_40, z_41, z_44, z_48, z_49, z_57, z_59, z_60, z_63, z_65, z_74, z_75, z_81, z_97, z_99, z_104, z_115, z_119, z_122, z_200, z_209, z_210, z_219, z_228, z_255, z_300, z_369, z_999, z_65537, z_268435456, z_1000000000, n_nat, n_add, n_sub, n_mul, n_neg, n_lt, n_le, n_eq, n_ix, n_gd, n_nz, lz_t, bd_some, tn, Int.reduceToNat, tn_1, if_pos, if_neg, if_true, if_false, y4, k2, i12, i13, t7, w1]
  have eM : (sA (sA (sA (sA M2 16 (11 + 3 * z) (Int32.ofInt A)) 16 (12 + 3 * z) (Int32.ofInt B)) 16 (13 + 3 * z) (Int32.ofInt C)) 16 7 (Int32.ofInt ((w + 1 : Nat) : Int))).2.2.1 16 = upd (upd (upd (upd (M.2.2.1 16) (11 + 3 * z) (Int32.ofInt A)) (12 + 3 * z) (Int32.ofInt B)) (13 + 3 * z) (Int32.ofInt C)) 7 (Int32.ofInt ((w + 1 : Nat) : Int)) := by
    rw [sA_u, sA_u, sA_u, sA_u, e2]
  have G5 : CG f e Lb R2 (sA (sA (sA (sA M2 16 (11 + 3 * z) (Int32.ofInt A)) 16 (12 + 3 * z) (Int32.ofInt B)) 16 (13 + 3 * z) (Int32.ofInt C)) 16 7 (Int32.ofInt ((w + 1 : Nat) : Int))) := CG_a (CG_a (CG_a (CG_a G2 _ _) _ _) _ _) _ _
  have W : FRw sRd R2 := y5.2.1
  refine Or.inl ⟨_, _, _, cls, ref, ⟨G5.1, G5.2.1, G5.2.2, ?_, (W.1 0 (by omega)).trans G.f0, (W.1 1 (by omega)).trans G.f1, ?_, ?_, ?_⟩, FX_t (FX_t X (FX_m y5.2.2)) (FX_t (FX_t (FX_t (FX_a _ _ _) (FX_a _ _ _)) (FX_a _ _ _)) (FX_a _ _ _))⟩
  · rw [sA_1, sA_1, sA_1, sA_1, y5.2.2.1 9 (by omega)]; exact G.no
  all_goals rw [eM]
  all_goals generalize hr : M.2.2.1 16 = r at *
  all_goals
    have hk : ∀ k, k ≠ 7 → k ≠ 11 + 3 * z → k ≠ 12 + 3 * z → k ≠ 13 + 3 * z → upd (upd (upd (upd r (11 + 3 * z) (Int32.ofInt A)) (12 + 3 * z) (Int32.ofInt B)) (13 + 3 * z) (Int32.ofInt C)) 7 (Int32.ofInt ((w + 1 : Nat) : Int)) k = r k := by
      intro k g1 g2 g3 g4
      rw [up_n _ _ _ _ g1, up_n _ _ _ _ g4, up_n _ _ _ _ g3, up_n _ _ _ _ g2]
    have g7 : upd (upd (upd (upd r (11 + 3 * z) (Int32.ofInt A)) (12 + 3 * z) (Int32.ofInt B)) (13 + 3 * z) (Int32.ofInt C)) 7 (Int32.ofInt ((w + 1 : Nat) : Int)) 7 = Int32.ofInt ((w + 1 : Nat) : Int) := up_s _ _ _
    have gA : upd (upd (upd (upd r (11 + 3 * z) (Int32.ofInt A)) (12 + 3 * z) (Int32.ofInt B)) (13 + 3 * z) (Int32.ofInt C)) 7 (Int32.ofInt ((w + 1 : Nat) : Int)) (11 + 3 * z) = Int32.ofInt A := by
      rw [up_n _ _ _ _ (by omega), up_n _ _ _ _ (by omega), up_n _ _ _ _ (by omega), up_s]
    have gB : upd (upd (upd (upd r (11 + 3 * z) (Int32.ofInt A)) (12 + 3 * z) (Int32.ofInt B)) (13 + 3 * z) (Int32.ofInt C)) 7 (Int32.ofInt ((w + 1 : Nat) : Int)) (12 + 3 * z) = Int32.ofInt B := by
      rw [up_n _ _ _ _ (by omega), up_n _ _ _ _ (by omega), up_s]
    have gC : upd (upd (upd (upd r (11 + 3 * z) (Int32.ofInt A)) (12 + 3 * z) (Int32.ofInt B)) (13 + 3 * z) (Int32.ofInt C)) 7 (Int32.ofInt ((w + 1 : Nat) : Int)) (13 + 3 * z) = Int32.ofInt C := by
      rw [up_n _ _ _ _ (by omega), up_s]
    generalize upd (upd (upd (upd r (11 + 3 * z) (Int32.ofInt A)) (12 + 3 * z) (Int32.ofInt B)) (13 + 3 * z) (Int32.ofInt C)) 7 (Int32.ofInt ((w + 1 : Nat) : Int)) = r' at *
    have eA : (Int32.ofInt A).toInt = A := n_toI _ (by omega) (by omega)
    have eB : (Int32.ofInt B).toInt = B := n_toI _ (by omega) (by omega)
    have eC : (Int32.ofInt C).toInt = C := n_toI _ (by omega) (by omega)
  · refine ⟨?_, ?_, RoK_c (fun k _ => hk _ (by omega) (by omega) (by omega) (by omega)) (by rw [hk 5 (by omega) (by omega) (by omega) (by omega)]; exact Int.le_refl _) pk.ro, MiK_c (fun k _ => hk _ (by omega) (by omega) (by omega) (by omega)) pk.mi, ?_, WyK_c (hk 8 (by omega) (by omega) (by omega) (by omega)) (by have := pk.nu.2.2.2.1; omega) (fun k _ => hk _ (by omega) (by omega) (by omega) (by omega)) (fun k _ h => by rw [hk _ (by omega) (by omega) (by omega) (by omega)]; exact h) (by rw [hk 5 (by omega) (by omega) (by omega) (by omega)]; exact Int.le_refl _) (by omega) pk.wy, ReK_c (hk 9 (by omega) (by omega) (by omega) (by omega)) (by have := pk.nu.2.2.2.2; omega) (fun k _ => hk _ (by omega) (by omega) (by omega) (by omega)) ?_ (by rw [hk 5 (by omega) (by omega) (by omega) (by omega)]; exact Int.le_refl _) (by omega) pk.re⟩
    · have := pk.ca
      unfold CaK at *
      rw [hk 10 (by omega) (by omega) (by omega) (by omega), hk 0 (by omega) (by omega) (by omega) (by omega), hk 1 (by omega) (by omega) (by omega) (by omega), hk 2 (by omega) (by omega) (by omega) (by omega), hk 3 (by omega) (by omega) (by omega) (by omega), hk 4 (by omega) (by omega) (by omega) (by omega)]
      rcases this with ⟨g, -⟩ | g
      · rw [h10] at g; exact absurd g (by decide)
      · exact Or.inr g
    · have := pk.nu
      unfold NuK at *
      rw [hk 5 (by omega) (by omega) (by omega) (by omega), hk 6 (by omega) (by omega) (by omega) (by omega), hk 8 (by omega) (by omega) (by omega) (by omega), hk 9 (by omega) (by omega) (by omega) (by omega), g7, n_toI _ (by omega) (by omega)]
      exact ⟨this.1, this.2.1, by omega, this.2.2.2⟩
    · intro p hp
      by_cases c : p = z
      · subst c
        rw [gA, gB, gC, eA, eB, eC]
        refine ⟨by omega, by omega, by omega, fun h => ?_⟩
        rw [i_eq, eA] at h
        have h0 : (0 : Int32).toInt = 0 := rfl
        omega
      · rw [hk _ (by omega) (by omega) (by omega) (by omega), hk _ (by omega) (by omega) (by omega) (by omega), hk _ (by omega) (by omega) (by omega) (by omega)]
        exact pk.pu p hp
    · intro p hp h
      by_cases c : p = z
      · subst c
        rw [gA, eA]; omega
      · rw [hk _ (by omega) (by omega) (by omega) (by omega)]
        exact h
  · have a10 : ∀ a, a ≠ 12 → a ≠ 13 → a ≠ 14 → (sI (sA sP 14 z (Int32.ofInt C)) 7 (Int32.ofInt ((w + 1 : Nat) : Int))).2.2.1 a = sSp.2.2.1 a := by
      intro a g1 g2 g3
      show (sA sP 14 z (Int32.ofInt C)).2.2.1 a = _
      rw [sA_n _ _ _ _ _ g3, sn a g1 g2]
    refine ⟨?_, fun k hk' => by rw [a10 10 (by decide) (by decide) (by decide), hk _ (by omega) (by omega) (by omega) (by omega)]; exact rp.pin k hk', fun k hk' => by rw [a10 11 (by decide) (by decide) (by decide), hk _ (by omega) (by omega) (by omega) (by omega)]; exact rp.min k hk', fun p hp => ?_, fun i hi => ?_, fun hi => ?_, fun i hi => ?_, fun i hi => ?_⟩
    · intro k hk'
      by_cases c : k = 7
      · subst c
        rw [sI_s, g7]
      · rw [sI_n _ _ _ _ c, hk k c (by omega) (by omega) (by omega), sA_1, s1]
        exact rp.num k hk'
    · show (sA sP 14 z (Int32.ofInt C)).2.2.1 12 p = _ ∧ (sA sP 14 z (Int32.ofInt C)).2.2.1 13 p = _ ∧ (sA sP 14 z (Int32.ofInt C)).2.2.1 14 p = _
      rw [sA_n _ _ 12 _ _ (by decide), sA_n _ _ 13 _ _ (by decide), sA_u, s12, s13, sn 14 (by decide) (by decide)]
      by_cases c : p = z
      · subst c
        rw [gA, gB, gC, up_s, up_s, up_s]
        exact ⟨rfl, rfl, rfl⟩
      · rw [up_n _ _ _ _ c, up_n _ _ _ _ c, up_n _ _ _ _ c, hk _ (by omega) (by omega) (by omega) (by omega), hk _ (by omega) (by omega) (by omega) (by omega), hk _ (by omega) (by omega) (by omega) (by omega)]
        exact rp.pum p hp
    · rw [hk 8 (by omega) (by omega) (by omega) (by omega)] at hi
      have := pk.nu.2.2.2.1
      rw [a10 15 (by decide) (by decide) (by decide), hk _ (by omega) (by omega) (by omega) (by omega)]
      exact rp.way i hi
    · rw [hk 8 (by omega) (by omega) (by omega) (by omega)] at hi
      rw [a10 16 (by decide) (by decide) (by decide)]
      exact rp.up0 hi
    · rw [hk 8 (by omega) (by omega) (by omega) (by omega)] at hi
      have b8 := pk.nu.2.2.2.1
      have h1 := pk.wy.1 i (by omega)
      have h2 := pk.wy.1 (i + 1) (by omega)
      have d1 := i_nat _ h1.1
      have d2 := i_nat _ h2.1
      rw [a10 16 (by decide) (by decide) (by decide), hk (200 + i) (by omega) (by omega) (by omega) (by omega), hk (200 + (i + 1)) (by omega) (by omega) (by omega) (by omega), hk (38 + _) (by omega) (by omega) (by omega) (by omega)]
      exact rp.upt i hi
    · rw [hk 9 (by omega) (by omega) (by omega) (by omega)] at hi
      have := pk.nu.2.2.2.2
      rw [a10 17 (by decide) (by decide) (by decide), a10 18 (by decide) (by decide) (by decide), hk _ (by omega) (by omega) (by omega) (by omega), hk _ (by omega) (by omega) (by omega) (by omega)]
      exact rp.rec i hi
  · intro n hn
    rw [hk 5 (by omega) (by omega) (by omega) (by omega)] at hn
    obtain ⟨a0, b0, g1, g2, g3, g4, g5, g6, g7⟩ := nm n hn
    have eA : R2.2 = sRd.2 := W.2
    refine ⟨a0, b0, g1, g2, g3, by rw [eA]; exact g4, by rw [eA]; exact g5, ?_, ?_⟩
    · rw [hk _ (by omega) (by omega) (by omega) (by omega), g6]
    · intro j hj
      rw [hk _ (by omega) (by omega) (by omega) (by omega), g7 j hj]
