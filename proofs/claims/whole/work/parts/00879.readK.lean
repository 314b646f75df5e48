/-! the line of a road -/
theorem up_if (f : Nat → Int32) (i k : Nat) (v : Int32) : upd f i v k = if k = i then v else f k := by
  by_cases c : k = i
  · subst c
    rw [up_s, if_pos rfl]
  · rw [up_n _ _ _ _ c, if_neg c]
theorem B_placeHere {F : Nat} {s : MS} (h : s.1 13 = Int32.ofInt 1) : f_X11_placeHere F s = some (Int32.ofInt 0, s) := by
  unfold f_X11_placeHere
  rw [h, if_neg (by decide)]; rfl
theorem B_roadLine_56 {F : Nat} {s : MS} {x y : Int32} (h : s.1 13 = Int32.ofInt 1) : f_X11_roadLine_56 F x y s = some s := by
  unfold f_X11_roadLine_56
  rw [h, if_neg (by decide)]
theorem LN_roadZ {F : Nat} {f : Nat → Int32} {e Lb : Nat} {sRd sSp M sMo : MS} {oc : Option (Int32 × MS × MS)} {om : Option MS} (G : GD f e Lb sRd sSp M) {N x y : Nat} {p q : Int} (hN : (M.2.2.1 16 5).toInt = N) (N9 : N ≤ 9) (h10 : M.2.2.1 16 10 = 1) (h6 : (M.2.2.1 16 6).toInt < 14) (hx : x < N) (hy : y < N) (c1 : x ≠ y) (c2 : (M.2.2.1 16 (38 + (9 * x + y))).toInt = 0) (p1 : 1 ≤ p) (p2 : p ≤ 40) (q1 : 0 ≤ q) (q2 : q ≤ 99) (X : FX sMo M) (hoc : oc = bd (f_X9_addRoad F (Int32.ofInt (x : Int)) (Int32.ofInt (y : Int)) (Int32.ofInt p) (Int32.ofInt q) sSp) fun o21 => some ((1 : Int32), sRd, o21)) (hom : om = (gd (vpb (((38 : Int32) + ((9 : Int32) * Int32.ofInt (x : Int))) + Int32.ofInt (y : Int)) 300) <| lz (sA M 16 ((((38 : Int32) + ((9 : Int32) * Int32.ofInt (x : Int))) + Int32.ofInt (y : Int)).toNatClampNeg) (Int32.ofInt p)) fun s16 => gd (vpb (((38 : Int32) + ((9 : Int32) * Int32.ofInt (y : Int))) + Int32.ofInt (x : Int)) 300) <| lz (sA s16 16 ((((38 : Int32) + ((9 : Int32) * Int32.ofInt (y : Int))) + Int32.ofInt (x : Int)).toNatClampNeg) (Int32.ofInt p)) fun s18 => gd (vpb (((119 : Int32) + ((9 : Int32) * Int32.ofInt (x : Int))) + Int32.ofInt (y : Int)) 300) <| lz (sA s18 16 ((((119 : Int32) + ((9 : Int32) * Int32.ofInt (x : Int))) + Int32.ofInt (y : Int)).toNatClampNeg) (Int32.ofInt q)) fun s20 => gd (vpb (((119 : Int32) + ((9 : Int32) * Int32.ofInt (y : Int))) + Int32.ofInt (x : Int)) 300) <| lz (sA s20 16 ((((119 : Int32) + ((9 : Int32) * Int32.ofInt (y : Int))) + Int32.ofInt (x : Int)).toNatClampNeg) (Int32.ofInt q)) fun s22 => gd (vpb (6 : Int32) 300) <| lz (s22.2.2.1 16 (6 : Int32).toNatClampNeg) fun v24 => gd (vpb (6 : Int32) 300) <| lz (sA s22 16 ((6 : Int32).toNatClampNeg) (v24 + (1 : Int32))) fun s26 => some s26)) : LN f e Lb oc om sMo := by
  have pk := G.pk
  have rp := G.rp
  have x9 : x < 9 := by omega
  have y9 : y < 9 := by omega
  have ixy : (38 : Int) + 9 * (x : Int) + (y : Int) = ((38 + (9 * x + y) : Nat) : Int) := by omega
  have iyx : (38 : Int) + 9 * (y : Int) + (x : Int) = ((38 + (9 * y + x) : Nat) : Int) := by omega
  have jxy : (119 : Int) + 9 * (x : Int) + (y : Int) = ((119 + (9 * x + y) : Nat) : Int) := by omega
  have jyx : (119 : Int) + 9 * (y : Int) + (x : Int) = ((119 + (9 * y + x) : Nat) : Int) := by omega
  have lxy : (x : Int) * 9 + (y : Int) = ((9 * x + y : Nat) : Int) := by omega
  have lyx : (y : Int) * 9 + (x : Int) = ((9 * y + x : Nat) : Int) := by omega
  obtain ⟨w, hw⟩ := toN pk.nu.2.1.1
  have r6 : M.2.2.1 16 6 = Int32.ofInt (w : Int) := by rw [← hw]; exact n_out _
  rw [hw] at h6
  have s6 : sSp.1 6 = Int32.ofInt (w : Int) := (rp.num 6 (by omega)).trans r6
  have w1 : (w : Int) + 1 = ((w + 1 : Nat) : Int) := by omega
  have t6 : (sA (sA (sA (sA M 16 (38 + (9 * x + y)) (Int32.ofInt p)) 16 (38 + (9 * y + x)) (Int32.ofInt p)) 16 (119 + (9 * x + y)) (Int32.ofInt q)) 16 (119 + (9 * y + x)) (Int32.ofInt q)).2.2.1 16 6 = Int32.ofInt (w : Int) := by
    rw [sA_u, sA_u, sA_u, sA_u, up_n _ _ _ _ (by omega), up_n _ _ _ _ (by omega), up_n _ _ _ _ (by omega), up_n _ _ _ _ (by omega), r6]
  have ref : om = some (sA (sA (sA (sA (sA M 16 (38 + (9 * x + y)) (Int32.ofInt p)) 16 (38 + (9 * y + x)) (Int32.ofInt p)) 16 (119 + (9 * x + y)) (Int32.ofInt q)) 16 (119 + (9 * y + x)) (Int32.ofInt q)) 16 6 (Int32.ofInt ((w + 1 : Nat) : Int))) := by
    rw [hom]
    simp (disch := omega) only [z_0, z_1, z_2, z_3, z_4, z_5, z_6, z_7, z_8, z_9, z_10, z_11, z_12, z_14, z_18, z_20, z_22, z_24, z_32, z_38, z_40, z_41, z_44, z_48, z_49, z_57, z_59, z_60, z_63, z_65, z_74, z_75, z_81, z_97, z_99, z_104, z_115, z_119, z_122, z_200, z_209, z_210, z_219, z_228, z_255, z_300, z_369, z_999, z_65537, z_268435456, z_1000000000, n_nat, n_add, n_sub, n_mul, n_neg, n_lt, n_le, n_eq, n_ix, n_gd, n_nz, lz_t, bd_some, tn, Int.reduceToNat, tn_1, if_pos, if_neg, if_true, if_false, ixy, iyx, jxy, jyx, t6, w1]
  have cls : oc = some (1, sRd, sI (sA (sA (sA (sA sSp 10 (9 * x + y) (Int32.ofInt p)) 10 (9 * y + x) (Int32.ofInt p)) 11 (9 * x + y) (Int32.ofInt q)) 11 (9 * y + x) (Int32.ofInt q)) 6 (Int32.ofInt ((w + 1 : Nat) : Int))) := by
    rw [hoc]
    unfold f_X9_addRoad
    simp (disch := omega) only [z_0, z_1, z_2, z_3, z_4, z_5, z_6, z_7, z_8, z_9, z_10, z_11, z_12, z_14, z_18, z_20, z_22, z_24, z_32, z_38, z_40, z_41, z_44, z_48, z_49, z_57, z_59, z_60, z_63, z_65, z_74, z_75, z_81, z_97, z_99, z_104, z_115, z_119, z_122, z_200, z_209, z_210, z_219, z_228, z_255, z_300, z_369, z_999, z_65537, z_268435456, z_1000000000, n_nat, n_add, n_sub, n_mul, n_neg, n_lt, n_le, n_eq, n_ix, n_gd, n_nz, lz_t, bd_some, tn, Int.reduceToNat, tn_1, if_pos, if_neg, if_true, if_false, lxy, lyx, sA_1, s6, w1]
  have eM : (sA (sA (sA (sA (sA M 16 (38 + (9 * x + y)) (Int32.ofInt p)) 16 (38 + (9 * y + x)) (Int32.ofInt p)) 16 (119 + (9 * x + y)) (Int32.ofInt q)) 16 (119 + (9 * y + x)) (Int32.ofInt q)) 16 6 (Int32.ofInt ((w + 1 : Nat) : Int))).2.2.1 16 = upd (upd (upd (upd (upd (M.2.2.1 16) (38 + (9 * x + y)) (Int32.ofInt p)) (38 + (9 * y + x)) (Int32.ofInt p)) (119 + (9 * x + y)) (Int32.ofInt q)) (119 + (9 * y + x)) (Int32.ofInt q)) 6 (Int32.ofInt ((w + 1 : Nat) : Int)) := by
    rw [sA_u, sA_u, sA_u, sA_u, sA_u]
  have nm := G.nm
  refine Or.inl ⟨_, _, _, cls, ref, ⟨RZ_c G.z rfl (by rw [sA_n _ _ _ _ _ (by decide), sA_n _ _ _ _ _ (by decide), sA_n _ _ _ _ _ (by decide), sA_n _ _ _ _ _ (by decide), sA_n _ _ _ _ _ (by decide)]), RD_c G.d rfl (by rw [sA_n _ _ _ _ _ (by decide), sA_n _ _ _ _ _ (by decide), sA_n _ _ _ _ _ (by decide), sA_n _ _ _ _ _ (by decide), sA_n _ _ _ _ _ (by decide)]), G.ok, G.no, G.f0, G.f1, ?_, ?_, ?_⟩, FX_t X (FX_t (FX_t (FX_t (FX_t (FX_a _ _ _) (FX_a _ _ _)) (FX_a _ _ _)) (FX_a _ _ _)) (FX_a _ _ _))⟩
  all_goals rw [eM]
  all_goals generalize hr : M.2.2.1 16 = r at *
  all_goals
    have hp : ∀ k, k < 81 → upd (upd (upd (upd (upd r (38 + (9 * x + y)) (Int32.ofInt p)) (38 + (9 * y + x)) (Int32.ofInt p)) (119 + (9 * x + y)) (Int32.ofInt q)) (119 + (9 * y + x)) (Int32.ofInt q)) 6 (Int32.ofInt ((w + 1 : Nat) : Int)) (38 + k) = if k = 9 * x + y ∨ k = 9 * y + x then Int32.ofInt p else r (38 + k) := by
      intro k hk
      rw [up_n _ _ _ _ (by omega), up_n _ _ _ _ (by omega), up_n _ _ _ _ (by omega), up_if, up_if]
      by_cases g1 : k = 9 * y + x
      · rw [if_pos (by omega), if_pos (Or.inr g1)]
      · by_cases g2 : k = 9 * x + y
        · rw [if_neg (by omega), if_pos (by omega), if_pos (Or.inl g2)]
        · rw [if_neg (by omega), if_neg (by omega), if_neg (by omega)]
    have hm : ∀ k, k < 81 → upd (upd (upd (upd (upd r (38 + (9 * x + y)) (Int32.ofInt p)) (38 + (9 * y + x)) (Int32.ofInt p)) (119 + (9 * x + y)) (Int32.ofInt q)) (119 + (9 * y + x)) (Int32.ofInt q)) 6 (Int32.ofInt ((w + 1 : Nat) : Int)) (119 + k) = if k = 9 * x + y ∨ k = 9 * y + x then Int32.ofInt q else r (119 + k) := by
      intro k hk
      rw [up_n _ _ _ _ (by omega), up_if, up_if, up_n _ _ _ _ (by omega), up_n _ _ _ _ (by omega)]
      by_cases g1 : k = 9 * y + x
      · rw [if_pos (by omega), if_pos (Or.inr g1)]
      · by_cases g2 : k = 9 * x + y
        · rw [if_neg (by omega), if_pos (by omega), if_pos (Or.inl g2)]
        · rw [if_neg (by omega), if_neg (by omega), if_neg (by omega)]
    have hk : ∀ k, k ≠ 6 → (k < 38 ∨ 200 ≤ k) → upd (upd (upd (upd (upd r (38 + (9 * x + y)) (Int32.ofInt p)) (38 + (9 * y + x)) (Int32.ofInt p)) (119 + (9 * x + y)) (Int32.ofInt q)) (119 + (9 * y + x)) (Int32.ofInt q)) 6 (Int32.ofInt ((w + 1 : Nat) : Int)) k = r k := by
      intro k g1 g2
      rw [up_n _ _ _ _ (by omega), up_n _ _ _ _ (by omega), up_n _ _ _ _ (by omega), up_n _ _ _ _ (by omega), up_n _ _ _ _ (by omega)]
    have g6 : upd (upd (upd (upd (upd r (38 + (9 * x + y)) (Int32.ofInt p)) (38 + (9 * y + x)) (Int32.ofInt p)) (119 + (9 * x + y)) (Int32.ofInt q)) (119 + (9 * y + x)) (Int32.ofInt q)) 6 (Int32.ofInt ((w + 1 : Nat) : Int)) 6 = Int32.ofInt ((w + 1 : Nat) : Int) := up_s _ _ _
    generalize upd (upd (upd (upd (upd r (38 + (9 * x + y)) (Int32.ofInt p)) (38 + (9 * y + x)) (Int32.ofInt p)) (119 + (9 * x + y)) (Int32.ofInt q)) (119 + (9 * y + x)) (Int32.ofInt q)) 6 (Int32.ofInt ((w + 1 : Nat) : Int)) = r' at *
    have ep : (Int32.ofInt p).toInt = p := n_toI _ (by omega) (by omega)
    have eq : (Int32.ofInt q).toInt = q := n_toI _ (by omega) (by omega)
    have c3 : (r (38 + (9 * y + x))).toInt = 0 := by rw [← (pk.ro x y x9 y9).2.2.1]; exact c2
  · refine ⟨?_, ?_, ?_, ?_, PuK_c (fun k _ => hk _ (by omega) (by omega)) pk.pu, WyK_c (hk 8 (by omega) (by omega)) (by have := pk.nu.2.2.2.1; omega) (fun k _ => hk _ (by omega) (by omega)) ?_ (by rw [hk 5 (by omega) (by omega)]; exact Int.le_refl _) (by omega) pk.wy, ReK_c (hk 9 (by omega) (by omega)) (by have := pk.nu.2.2.2.2; omega) (fun k _ => hk _ (by omega) (by omega)) (fun k _ h => by rw [hk _ (by omega) (by omega)]; exact h) (by rw [hk 5 (by omega) (by omega)]; exact Int.le_refl _) (by omega) pk.re⟩
    · have := pk.ca
      unfold CaK at *
      rw [hk 10 (by omega) (by omega), hk 0 (by omega) (by omega), hk 1 (by omega) (by omega), hk 2 (by omega) (by omega), hk 3 (by omega) (by omega), hk 4 (by omega) (by omega)]
      rcases this with ⟨g, -⟩ | g
      · rw [h10] at g; exact absurd g (by decide)
      · exact Or.inr g
    · have := pk.nu
      unfold NuK at *
      rw [hk 5 (by omega) (by omega), hk 7 (by omega) (by omega), hk 8 (by omega) (by omega), hk 9 (by omega) (by omega), g6, n_toI _ (by omega) (by omega)]
      exact ⟨this.1, by omega, this.2.2⟩
    · intro a b ha hb
      rw [hp _ (by omega), hp _ (by omega), hk 5 (by omega) (by omega)]
      have R := pk.ro a b ha hb
      by_cases g : 9 * a + b = 9 * x + y ∨ 9 * a + b = 9 * y + x
      · have g' : 9 * b + a = 9 * x + y ∨ 9 * b + a = 9 * y + x := by omega
        rw [if_pos g, if_pos g', ep]
        refine ⟨by omega, by omega, rfl, fun h => ?_⟩
        exfalso
        omega
      · have g' : ¬ (9 * b + a = 9 * x + y ∨ 9 * b + a = 9 * y + x) := by omega
        rw [if_neg g, if_neg g']
        exact R
    · intro k hk'
      rw [hm k hk']
      have := pk.mi k hk'
      split
      · rw [eq]; omega
      · exact this
    · intro k hk' h
      rw [hp k hk']
      split
      · rw [ep]; omega
      · exact h
  · refine ⟨?_, ?_, ?_, fun p hp => by rw [hk _ (by omega) (by omega), hk _ (by omega) (by omega), hk _ (by omega) (by omega)]; exact rp.pum p hp, fun i hi => ?_, fun hi => ?_, fun i hi => ?_, fun i hi => ?_⟩
    · intro k hk'
      by_cases c : k = 6
      · subst c
        rw [sI_s, g6]
      · rw [sI_n _ _ _ _ c, hk k c (by omega)]
        exact rp.num k hk'
    · intro k hk'
      rw [hp k hk']
      show (sA (sA (sA (sA sSp 10 (9 * x + y) (Int32.ofInt p)) 10 (9 * y + x) (Int32.ofInt p)) 11 (9 * x + y) (Int32.ofInt q)) 11 (9 * y + x) (Int32.ofInt q)).2.2.1 10 k = _
      rw [sA_n _ _ _ _ _ (by decide), sA_n _ _ _ _ _ (by decide), sA_u, sA_u, up_if, up_if, rp.pin k hk']
      by_cases g1 : k = 9 * y + x
      · rw [if_pos g1, if_pos (Or.inr g1)]
      · by_cases g2 : k = 9 * x + y
        · rw [if_neg g1, if_pos g2, if_pos (Or.inl g2)]
        · rw [if_neg g1, if_neg g2, if_neg (by omega)]
    · intro k hk'
      rw [hm k hk']
      show (sA (sA (sA (sA sSp 10 (9 * x + y) (Int32.ofInt p)) 10 (9 * y + x) (Int32.ofInt p)) 11 (9 * x + y) (Int32.ofInt q)) 11 (9 * y + x) (Int32.ofInt q)).2.2.1 11 k = _
      rw [sA_u, sA_u, sA_n _ _ _ _ _ (by decide), sA_n _ _ _ _ _ (by decide), up_if, up_if, rp.min k hk']
      by_cases g1 : k = 9 * y + x
      · rw [if_pos g1, if_pos (Or.inr g1)]
      · by_cases g2 : k = 9 * x + y
        · rw [if_neg g1, if_pos g2, if_pos (Or.inl g2)]
        · rw [if_neg g1, if_neg g2, if_neg (by omega)]
    · rw [hk 8 (by omega) (by omega)] at hi
      have := pk.nu.2.2.2.1
      rw [hk _ (by omega) (by omega)]
      exact rp.way i hi
    · rw [hk 8 (by omega) (by omega)] at hi
      exact rp.up0 hi
    · rw [hk 8 (by omega) (by omega)] at hi
      have b8 := pk.nu.2.2.2.1
      have h1 := pk.wy.1 i (by omega)
      have h2 := pk.wy.1 (i + 1) (by omega)
      have h3 := pk.wy.2 i hi
      have d1 := i_nat _ h1.1
      have d2 := i_nat _ h2.1
      rw [hk (200 + i) (by omega) (by omega), hk (200 + (i + 1)) (by omega) (by omega), hp _ (by omega), if_neg]
      · exact rp.upt i hi
      · intro h
        rcases h with h | h
        · rw [h] at h3; omega
        · rw [h] at h3; omega
    · rw [hk 9 (by omega) (by omega)] at hi
      have := pk.nu.2.2.2.2
      rw [hk _ (by omega) (by omega), hk _ (by omega) (by omega)]
      exact rp.rec i hi
  · intro n hn
    rw [hk 5 (by omega) (by omega)] at hn
    obtain ⟨a0, b0, g1, g2, g3, g4, g5, g6, g7⟩ := nm n hn
    refine ⟨a0, b0, g1, g2, g3, g4, g5, ?_, ?_⟩
    · rw [hk _ (by omega) (by omega), g6]
    · intro j hj
      rw [hk _ (by omega) (by omega), g7 j hj]
theorem LN_road {F : Nat} (hF : 1000 ≤ F) {f : Nat → Int32} {e Lb : Nat} {sRd sSp sMo : MS} (G : GD f e Lb sRd sSp sMo) (h10 : sMo.2.2.1 16 10 = 1) (h6 : (sMo.2.2.1 16 6).toInt < 14) : ∃ M1, f_X11_next F sMo = some M1 ∧ FX sMo M1 ∧ LN f e Lb (f_X7_readRoadBetween F 800 f sRd sSp) (f_X11_roadLine F M1) sMo := by
  obtain ⟨R1, M1, n1, n2, n3, n4, n5⟩ := N_next hF G.z G.d
  have G1 : GD f e Lb R1 sSp M1 := GD_k G ⟨n3, FRd_w n4, n5⟩
  have X1 : FX sMo M1 := FX_m n5
  refine ⟨M1, n2, X1, ?_⟩
  have e16 := n5.2 16 (by decide)
  rw [← e16] at h10 h6
  obtain ⟨N, hN⟩ := toN G1.pk.nu.1.1
  have N9 : N ≤ 9 := by have := G1.pk.nu.1.2; omega
  have r5 : M1.2.2.1 16 5 = Int32.ofInt (N : Int) := by rw [← hN]; exact n_out _
  have q5 : sSp.1 5 = Int32.ofInt (N : Int) := (G1.rp.num 5 (by omega)).trans r5
  have k13 : M1.1 13 = Int32.ofInt 0 := G1.ok
  rcases T_told hF G1.z G1.d G1.ok G1.nm N9 r5 q5 with ⟨x, hx, t1, t2, t3⟩ | ⟨R2, M2, t1, t2, t3, t4⟩
  rotate_left
  · have hb := t3.1
    refine Or.inr ⟨R2, sSp, M2, ?_, t3, FX_t X1 t4, ?_⟩
    · unfold f_X7_readRoadBetween
      rw [n1, bd_some, bd_no t1]
    · unfold f_X11_roadLine f_X11_placePassed
      simp (disch := first | omega | simp only [sA_1, hb]) only [z_0, z_1, z_2, z_3, z_4, z_5, z_6, z_7, z_8, z_9, z_10, z_11, z_12, z_14, z_18, z_20, z_22, z_24, z_32, z_38, z_40, z_41, z_44, z_48, z_49, z_57, z_59, z_60, z_63, z_65, z_74, z_75, z_81, z_97, z_99, z_104, z_115, z_119, z_122, z_200, z_209, z_210, z_219, z_228, z_255, z_300, z_369, z_999, z_65537, z_268435456, z_1000000000, n_nat, n_add, n_sub, n_mul, n_neg, n_lt, n_le, n_eq, n_ix, n_gd, n_nz, lz_t, bd_some, tn, Int.reduceToNat, tn_1, if_pos, if_neg, if_true, if_false, k13, t2, hb, B_placeHere, B_roadLine_56]
      exact FT_r _
  obtain ⟨R2, M2, m1, m2, m3, m4, m5⟩ := N_next hF G1.z G1.d
  have G2 : GD f e Lb R2 sSp M2 := GD_k G1 ⟨m3, FRd_w m4, m5⟩
  have X2 : FX sMo M2 := FX_t X1 (FX_m m5)
  have e2 := m5.2 16 (by decide)
  have k2 : M2.1 13 = Int32.ofInt 0 := G2.ok
  rcases T_told hF G2.z G2.d G2.ok G2.nm N9 (by rw [e2]; exact r5) q5 with ⟨y, hy, u1, u2, u3⟩ | ⟨R3, M3, u1, u2, u3, u4⟩
  rotate_left
  · have hb := u3.1
    refine Or.inr ⟨R3, sSp, M3, ?_, u3, FX_t X2 u4, ?_⟩
    · unfold f_X7_readRoadBetween
      rw [n1, bd_some, bd_ok t1, t2, bd_some, m1, bd_some, bd_no u1]
    · unfold f_X11_roadLine f_X11_placePassed
      simp (disch := first | omega | simp only [sA_1, hb]) only [z_0, z_1, z_2, z_3, z_4, z_5, z_6, z_7, z_8, z_9, z_10, z_11, z_12, z_14, z_18, z_20, z_22, z_24, z_32, z_38, z_40, z_41, z_44, z_48, z_49, z_57, z_59, z_60, z_63, z_65, z_74, z_75, z_81, z_97, z_99, z_104, z_115, z_119, z_122, z_200, z_209, z_210, z_219, z_228, z_255, z_300, z_369, z_999, z_65537, z_268435456, z_1000000000, n_nat, n_add, n_sub, n_mul, n_neg, n_lt, n_le, n_eq, n_ix, n_gd, n_nz, lz_t, bd_some, tn, Int.reduceToNat, tn_1, if_pos, if_neg, if_true, if_false, k13, t3, m2, u2, hb, B_roadLine_56]
      exact FT_r _
  have pk := G2.pk
  have rp := G2.rp
  have nm := G2.nm
  rw [← e2] at hN h10 h6 r5
  have e4 := RD_46 G2.d
  have x9 : x < 9 := by omega
  have y9 : y < 9 := by omega
  have ixy : (38 : Int) + 9 * (x : Int) + (y : Int) = ((38 + (9 * x + y) : Nat) : Int) := by omega
  have iyx : (38 : Int) + 9 * (y : Int) + (x : Int) = ((38 + (9 * y + x) : Nat) : Int) := by omega
  have jxy : (119 : Int) + 9 * (x : Int) + (y : Int) = ((119 + (9 * x + y) : Nat) : Int) := by omega
  have jyx : (119 : Int) + 9 * (y : Int) + (x : Int) = ((119 + (9 * y + x) : Nat) : Int) := by omega
  have lxy : (x : Int) * 9 + (y : Int) = ((9 * x + y : Nat) : Int) := by omega
  have lyx : (y : Int) * 9 + (x : Int) = ((9 * y + x : Nat) : Int) := by omega
  have z119 : (119 : Int32) = Int32.ofInt 119 := rfl
  have rr := pk.ro x y x9 y9
  obtain ⟨rv, hrv, rv1, rv2⟩ : ∃ v : Int, M2.2.2.1 16 (38 + (9 * x + y)) = Int32.ofInt v ∧ 0 ≤ v ∧ v ≤ 40 := ⟨_, n_out _, rr.1, rr.2.1⟩
  have er : (M2.2.2.1 16 (38 + (9 * x + y))).toInt = rv := by rw [hrv, n_toI _ (by omega) (by omega)]
  have hc10 : sSp.2.2.1 10 (9 * x + y) = Int32.ofInt rv := by rw [rp.pin _ (by omega), hrv]
  have cls : f_X9_isRoad F sSp (Int32.ofInt (x : Int)) (Int32.ofInt (y : Int)) = some (if rv ≤ 0 then 0 else 1) := by
    unfold f_X9_isRoad f_X9_pintsOf
    by_cases c : rv ≤ 0
    · rw [if_pos c]
      simp (disch := omega) only [z_0, z_1, z_2, z_3, z_4, z_5, z_6, z_7, z_8, z_9, z_10, z_11, z_12, z_14, z_18, z_20, z_22, z_24, z_32, z_38, z_40, z_41, z_44, z_48, z_49, z_57, z_59, z_60, z_63, z_65, z_74, z_75, z_81, z_97, z_99, z_104, z_115, z_119, z_122, z_200, z_209, z_210, z_219, z_228, z_255, z_300, z_369, z_999, z_65537, z_268435456, z_1000000000, n_nat, n_add, n_sub, n_mul, n_neg, n_lt, n_le, n_eq, n_ix, n_gd, n_nz, lz_t, bd_some, tn, Int.reduceToNat, tn_1, if_pos, if_neg, if_true, if_false, lxy, hc10]
    · rw [if_neg c]
      simp (disch := omega) only [z_0, z_1, z_2, z_3, z_4, z_5, z_6, z_7, z_8, z_9, z_10, z_11, z_12, z_14, z_18, z_20, z_22, z_24, z_32, z_38, z_40, z_41, z_44, z_48, z_49, z_57, z_59, z_60, z_63, z_65, z_74, z_75, z_81, z_97, z_99, z_104, z_115, z_119, z_122, z_200, z_209, z_210, z_219, z_228, z_255, z_300, z_369, z_999, z_65537, z_268435456, z_1000000000, n_nat, n_add, n_sub, n_mul, n_neg, n_lt, n_le, n_eq, n_ix, n_gd, n_nz, lz_t, bd_some, tn, Int.reduceToNat, tn_1, if_pos, if_neg, if_true, if_false, lxy, hc10]
  by_cases cxy : x = y ∨ 0 < rv
  · have hb := wrS_13 M2 3 (M2.1 4)
    have w3 := wrong_e (F := F) 3 (M2.1 4) G2.ok
    have fin : f_X11_roadLine_47 F (Int32.ofInt (x : Int)) (Int32.ofInt (y : Int)) M2 = some (wrS M2 3 (M2.1 4)) := by
      unfold f_X11_roadLine_47
      rw [w3, bd_some, B_roadLine_56 hb]
    refine Or.inr ⟨faS R2 3 (R2.1 6), sSp, wrS M2 3 (M2.1 4), ?_, ?_, FX_t X2 (FX_w _ _ _), ?_⟩
    · unfold f_X7_readRoadBetween
      rw [n1, bd_some, bd_ok t1, t2, bd_some, m1, bd_some, bd_ok u1, u2, bd_some]
      have F53 : f_X7_readRoadBetween_53 F 800 f R2 sSp = some (0, faS R2 3 (R2.1 6), sSp) := by
        unfold f_X7_readRoadBetween_53
        rw [fail_e]; rfl
      by_cases c : x = y
      · rw [if_pos (by rw [c])]
        exact F53
      · rw [if_neg (by rw [n_eq _ _ (by omega) (by omega) (by omega) (by omega)]; omega), cls, bd_some, if_neg (c := rv ≤ 0) (by omega), if_neg (by decide)]
        exact F53
    · rw [e4]; exact BAD_w _ _ _ _
    · unfold f_X11_roadLine f_X11_placePassed
      by_cases c : x = y
      · simp (disch := first | omega) only [z_0, z_1, z_2, z_3, z_4, z_5, z_6, z_7, z_8, z_9, z_10, z_11, z_12, z_14, z_18, z_20, z_22, z_24, z_32, z_38, z_40, z_41, z_44, z_48, z_49, z_57, z_59, z_60, z_63, z_65, z_74, z_75, z_81, z_97, z_99, z_104, z_115, z_119, z_122, z_200, z_209, z_210, z_219, z_228, z_255, z_300, z_369, z_999, z_65537, z_268435456, z_1000000000, n_nat, n_add, n_sub, n_mul, n_neg, n_lt, n_le, n_eq, n_ix, n_gd, n_nz, lz_t, bd_some, tn, Int.reduceToNat, tn_1, if_pos, if_neg, if_true, if_false, k13, t3, m2, u3, k2, fin]
        exact FT_r _
      · simp (disch := first | omega) only [z_0, z_1, z_2, z_3, z_4, z_5, z_6, z_7, z_8, z_9, z_10, z_11, z_12, z_14, z_18, z_20, z_22, z_24, z_32, z_38, z_40, z_41, z_44, z_48, z_49, z_57, z_59, z_60, z_63, z_65, z_74, z_75, z_81, z_97, z_99, z_104, z_115, z_119, z_122, z_200, z_209, z_210, z_219, z_228, z_255, z_300, z_369, z_999, z_65537, z_268435456, z_1000000000, n_nat, n_add, n_sub, n_mul, n_neg, n_lt, n_le, n_eq, n_ix, n_gd, n_nz, lz_t, bd_some, tn, Int.reduceToNat, tn_1, if_pos, if_neg, if_true, if_false, k13, t3, m2, u3, k2, ixy, hrv, fin]
        exact FT_r _
  · have c1 : x ≠ y := fun h => cxy (Or.inl h)
    have c2 : rv = 0 := by omega
    obtain ⟨R3, M3, o1, o2, o3, o4, o5⟩ := N_next hF G2.z G2.d
    have G3 : GD f e Lb R3 sSp M3 := GD_k G2 ⟨o3, FRd_w o4, o5⟩
    have X3 : FX sMo M3 := FX_t X2 (FX_m o5)
    have refe : f_X11_roadLine F M1 = f_X11_roadLine_56 F (Int32.ofInt (x : Int)) (Int32.ofInt (y : Int)) M2 := by
      unfold f_X11_roadLine f_X11_placePassed
      simp (disch := first | omega) only [z_0, z_1, z_2, z_3, z_4, z_5, z_6, z_7, z_8, z_9, z_10, z_11, z_12, z_14, z_18, z_20, z_22, z_24, z_32, z_38, z_40, z_41, z_44, z_48, z_49, z_57, z_59, z_60, z_63, z_65, z_74, z_75, z_81, z_97, z_99, z_104, z_115, z_119, z_122, z_200, z_209, z_210, z_219, z_228, z_255, z_300, z_369, z_999, z_65537, z_268435456, z_1000000000, n_nat, n_add, n_sub, n_mul, n_neg, n_lt, n_le, n_eq, n_ix, n_gd, n_nz, lz_t, bd_some, tn, Int.reduceToNat, tn_1, if_pos, if_neg, if_true, if_false, k13, t3, m2, u3, k2, ixy, hrv]
    have clse : f_X7_readRoadBetween F 800 f sRd sSp = bd (f_X7_passWord F 800 f 10 R3) fun o13 => if o13.1 = (0 : Int32) then (some ((0 : Int32), o13.2, sSp)) else (bd (f_X7_passWhole F 800 f (1 : Int32) (40 : Int32) o13.2) fun o15 => if o15.1 = (0 : Int32) then (some ((0 : Int32), o15.2, sSp)) else (bd (f_X7_passWord F 800 f 11 o15.2) fun o17 => if o17.1 = (0 : Int32) then (some ((0 : Int32), o17.2, sSp)) else (bd (f_X7_passWhole F 800 f (0 : Int32) (99 : Int32) o17.2) fun o19 => if o19.1 = (0 : Int32) then (some ((0 : Int32), o19.2, sSp)) else (bd (f_X9_addRoad F (Int32.ofInt (x : Int)) (Int32.ofInt (y : Int)) (o15.2.1 8) (o19.2.1 8) sSp) fun o21 => some ((1 : Int32), o19.2, o21))))) := by
      unfold f_X7_readRoadBetween
      rw [n1, bd_some, bd_ok t1, t2, bd_some, m1, bd_some, bd_ok u1, u2, bd_some, if_neg (by rw [n_eq _ _ (by omega) (by omega) (by omega) (by omega)]; omega), cls, bd_some, if_pos (c := rv ≤ 0) (by omega), if_pos rfl, o1, bd_some]
    rw [clse, refe]
    unfold f_X11_roadLine_56
    rcases AFT hF G3.z G3.d G3.ok (lo := 1) (hi := 40) (by omega) (by omega) (by omega) (by omega) (p := 10) (by decide) with ⟨p, R4a, R4, M4, p1, p2, y1, y2, y3, y4, y5⟩ | ⟨R4, M4, y1, y2, y3, y4⟩
    rotate_left
    · have hb := y3.1
      refine Or.inr ⟨R4, sSp, M4, ?_, y3, FX_t X3 y4, ?_⟩
      · rcases y1 with y1 | ⟨R4a, y1, y1'⟩
        · rw [bd_no y1]
        · have y1'' : f_X7_passWhole F 800 f 1 40 R4a = some (0, R4) := y1'
          rw [bd_ok y1, bd_no y1'']
      · simp (disch := first | omega | simp only [sA_1, hb]) only [z_0, z_1, z_2, z_3, z_4, z_5, z_6, z_7, z_8, z_9, z_10, z_11, z_12, z_14, z_18, z_20, z_22, z_24, z_32, z_38, z_40, z_41, z_44, z_48, z_49, z_57, z_59, z_60, z_63, z_65, z_74, z_75, z_81, z_97, z_99, z_104, z_115, z_119, z_122, z_200, z_209, z_210, z_219, z_228, z_255, z_300, z_369, z_999, z_65537, z_268435456, z_1000000000, n_nat, n_add, n_sub, n_mul, n_neg, n_lt, n_le, n_eq, n_ix, n_gd, n_nz, lz_t, bd_some, tn, Int.reduceToNat, tn_1, if_pos, if_neg, if_true, if_false, k2, o2, y2, hb, B_after]
        exact FT_r _
    have y2' : f_X7_passWhole F 800 f 1 40 R4a = some (1, R4) := y2
    have G4 : GD f e Lb R4 sSp M4 := GD_k G3 y5
    have X4 : FX sMo M4 := FX_t X3 (FX_m y5.2.2)
    rcases AFT hF G4.z G4.d G4.ok (lo := 0) (hi := 99) (by omega) (by omega) (by omega) (by omega) (p := 11) (by decide) with ⟨q, R5a, R5, M5, q1, q2, z1, z2, z3, z4, z5⟩ | ⟨R5, M5, z1, z2, z3, z4⟩
    rotate_left
    · have hb := z3.1
      refine Or.inr ⟨R5, sSp, M5, ?_, z3, FX_t X4 z4, ?_⟩
      · rcases z1 with z1 | ⟨R5a, z1, z1'⟩
        · rw [bd_ok y1, bd_ok y2', bd_no z1]
        · have z1'' : f_X7_passWhole F 800 f 0 99 R5a = some (0, R5) := z1'
          rw [bd_ok y1, bd_ok y2', bd_ok z1, bd_no z1'']
      · simp (disch := first | omega | simp only [sA_1, hb]) only [z_0, z_1, z_2, z_3, z_4, z_5, z_6, z_7, z_8, z_9, z_10, z_11, z_12, z_14, z_18, z_20, z_22, z_24, z_32, z_38, z_40, z_41, z_44, z_48, z_49, z_57, z_59, z_60, z_63, z_65, z_74, z_75, z_81, z_97, z_99, z_104, z_115, z_119, z_122, z_200, z_209, z_210, z_219, z_228, z_255, z_300, z_369, z_999, z_65537, z_268435456, z_1000000000, n_nat, n_add, n_sub, n_mul, n_neg, n_lt, n_le, n_eq, n_ix, n_gd, n_nz, lz_t, bd_some, tn, Int.reduceToNat, tn_1, if_pos, if_neg, if_true, if_false, k2, o2, y4, z2, hb]
        exact FT_r _
    have z2' : f_X7_passWhole F 800 f 0 99 R5a = some (1, R5) := z2
    have G5 : GD f e Lb R5 sSp M5 := GD_k G4 z5
    have X5 : FX sMo M5 := FX_t X4 (FX_m z5.2.2)
    have k5 : M5.1 13 = Int32.ofInt 0 := G5.ok
    have e5 : M5.2.2.1 16 = M2.2.2.1 16 := by rw [z5.2.2.2 16 (by decide), y5.2.2.2 16 (by decide), o5.2 16 (by decide)]
    exact LN_roadZ G5 (by rw [e5]; exact hN) N9 (by rw [e5]; exact h10) (by rw [e5]; exact h6) hx hy c1 (by rw [e5, er]; exact c2) p1 p2 q1 q2 X5 (by
      rw [bd_ok y1, bd_ok y2', bd_ok z1, bd_ok z2']
      show (bd (f_X9_addRoad F (Int32.ofInt (x : Int)) (Int32.ofInt (y : Int)) (R4.1 8) (R5.1 8) sSp) fun o21 => some ((1 : Int32), R5, o21)) = _
      rw [y3, z3]) (by
      have y4' : f_X11_after F 1 40 10 M3 = some (Int32.ofInt p, M4) := y4
      have z4' : f_X11_after F 0 99 11 M4 = some (Int32.ofInt q, M5) := z4
      rw [G2.ok, if_pos rfl, o2, bd_some, y4', bd_some, z4', bd_some]
      exact if_pos G5.ok)
