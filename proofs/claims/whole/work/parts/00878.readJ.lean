/-! the line of a place -/
theorem pl_go {F : Nat} {N m : Nat} (hN : N < 9) (hm : m ≤ 8) : ∀ (d k n : Nat) (s : MS), k + d = m → d < n → s.1 8 = Int32.ofInt (m : Int) → ∃ s', f_X11_placeLine_52 F n (Int32.ofInt (N : Int)) (Int32.ofInt (k : Int)) s = f_X11_placeLine_87 F (Int32.ofInt (N : Int)) s' ∧ s'.1 = s.1 ∧ (∀ a, a ≠ 16 → s'.2.2.1 a = s.2.2.1 a) ∧ (∀ j, (j < 228 + (8 * N + k) ∨ 228 + (8 * N + m) ≤ j) → s'.2.2.1 16 j = s.2.2.1 16 j) ∧ (∀ j, k ≤ j → j < m → s'.2.2.1 16 (228 + (8 * N + j)) = s.2.2.1 12 j) := by
  intro d
  induction d with
  | zero =>
    intro k n s hk hn h8
    cases n with
    | zero => omega
    | succ n =>
      refine ⟨s, ?_, rfl, fun _ _ => rfl, fun _ _ => rfl, fun j h1 h2 => by omega⟩
      rw [f_X11_placeLine_52, h8, if_pos (by rw [n_le _ _ (by omega) (by omega) (by omega) (by omega)]; omega)]
  | succ d ih =>
    intro k n s hk hn h8
    cases n with
    | zero => omega
    | succ n =>
      obtain ⟨s', z1, z2, z3, z4, z5⟩ := ih (k + 1) n (sA s 16 (228 + (8 * N + k)) (s.2.2.1 12 k)) (by omega) (by omega) h8
      have e3 : (228 : Int) + 8 * (N : Int) + (k : Int) = ((228 + (8 * N + k) : Nat) : Int) := by omega
      have e2 : (k : Int) + 1 = ((k + 1 : Nat) : Int) := by omega
      refine ⟨s', ?_, z2, ?_, ?_, ?_⟩
      · rw [f_X11_placeLine_52, h8, if_neg (by rw [n_le _ _ (by omega) (by omega) (by omega) (by omega)]; omega), n_gd _ _ _ (by omega) (by omega) (by omega), n_ix _ (by omega) (by omega), tn, lz_t, show (228 : Int32) = Int32.ofInt 228 from rfl, show (8 : Int32) = Int32.ofInt 8 from rfl, n_mul, n_add, n_add, e3, n_gd _ _ _ (by omega) (by omega) (by omega), n_ix _ (by omega) (by omega), tn, lz_t, lz_t, z_1, n_add, e2]
        exact z1
      · intro a ha
        rw [z3 a ha, sA_n _ _ _ _ _ ha]
      · intro j hj
        rw [z4 j (by omega), sA_u, up_n _ _ _ _ (by omega)]
      · intro j h1 h2
        by_cases c : j = k
        · subst c
          rw [z4 _ (by omega), sA_u, up_s]
        · rw [z5 j (by omega) h2, sA_n _ _ _ _ _ (by decide)]
theorem LN_place {F : Nat} (hF : 1000 ≤ F) {f : Nat → Int32} {e Lb : Nat} {sRd sSp sMo : MS} (G : GD f e Lb sRd sSp sMo) (h10 : sMo.2.2.1 16 10 = 1) (h5 : (sMo.2.2.1 16 5).toInt < 9) : ∃ M1, f_X11_next F sMo = some M1 ∧ FX sMo M1 ∧ LN f e Lb (f_X7_readPlace F 800 f sRd sSp) (f_X11_placeLine F M1) sMo := by
  obtain ⟨R1, M1, n1, n2, n3, n4, n5⟩ := N_next hF G.z G.d
  have G1 : GD f e Lb R1 sSp M1 := GD_k G ⟨n3, FRd_w n4, n5⟩
  have X1 : FX sMo M1 := FX_m n5
  refine ⟨M1, n2, X1, ?_⟩
  have e16 := n5.2 16 (by decide)
  rw [← e16] at h10 h5
  have pk := G1.pk
  have rp := G1.rp
  have nm := G1.nm
  obtain ⟨N, hN⟩ := toN pk.nu.1.1
  have r5 : M1.2.2.1 16 5 = Int32.ofInt (N : Int) := by rw [← hN]; exact n_out _
  have q5 : sSp.1 5 = Int32.ofInt (N : Int) := (rp.num 5 (by omega)).trans r5
  rw [hN] at h5
  have e4 := RD_46 G1.d
  obtain ⟨v, v1, v2, v3⟩ := P_name hF G1.z G1.d G1.ok
  unfold f_X7_readPlace f_X11_placeLine
  rw [n1, bd_some, v1, bd_some, G1.ok, if_pos rfl, v2, bd_some]
  have W35 : ∀ c p, f_X11_placeLine_35 F (wrS M1 c p) = some (wrS M1 c p) := by
    intro c p
    unfold f_X11_placeLine_35
    rw [wrS_13, if_neg (by decide)]
  cases v with
  | false =>
    refine Or.inr ⟨faS R1 1 (R1.1 6), sSp, wrS M1 1 (M1.1 4), ?_, ?_, FX_t X1 (FX_w _ _ _), ?_⟩
    · rw [if_pos (show bi false = 0 from rfl), fail_e]; rfl
    · rw [e4]; exact BAD_w _ _ _ _
    · rw [if_neg (c := false = true) (by decide), wrS_13, if_neg (by decide), W35]
      exact FT_r _
  | true =>
    obtain ⟨z, z1, z2, z3⟩ := P_find hF G1.z G1.d (v3 rfl) nm (by omega) r5 q5
    rw [if_neg (show ¬ bi true = 0 by decide), if_pos (c := true = true) rfl, z2, z3, G1.ok, if_pos rfl, bd_some, bd_some]
    rcases z1 with rfl | ⟨z1, z4⟩
    · obtain ⟨a, b, d1, d2, d3, d4, d5, d6, d7⟩ := G1.d
      have k1 := v3 rfl
      have he := G1.z.1
      have d7' : a < b ∧ b ≤ a + 8 ∧ M1.1 8 = Int32.ofInt ((b - a : Nat) : Int) ∧ ∀ j, j < b - a → M1.2.2.1 12 j = f (a + j) := by
        rcases d7 with ⟨w1, -⟩ | ⟨-, -, w3, w4, w5, w6⟩ | ⟨w1, -⟩ | ⟨w1, -⟩ | ⟨w1, -⟩
        · rw [w1] at k1; exact absurd k1 (by decide)
        · exact ⟨w3, w4, w5, w6⟩
        · rw [w1] at k1; exact absurd k1 (by decide)
        · rw [w1] at k1; exact absurd k1 (by decide)
        · rw [w1] at k1; exact absurd k1 (by decide)
      obtain ⟨w3, w4, w5, w6⟩ := d7'
      obtain ⟨s', p1, p2, p3, p4, p5⟩ := pl_go (F := F) (N := N) (m := b - a) (by omega) (by omega) (b - a) 0 F M1 (by omega) (by omega) w5
      have s5 : s'.2.2.1 16 5 = Int32.ofInt (N : Int) := by rw [p4 5 (by omega), r5]
      have s8 : s'.1 8 = Int32.ofInt ((b - a : Nat) : Int) := by rw [p2, w5]
      have hR : RD f e Lb (sA (sA R1 9 N (R1.1 6)) 10 N (R1.1 7)) (sA (sA s' 16 (219 + N) (Int32.ofInt ((b - a : Nat) : Int))) 16 5 (Int32.ofInt ((N + 1 : Nat) : Int))) :=
        RD_c (sMo := M1) G1.d p2 (by rw [sA_n _ _ _ _ _ (by decide), sA_n _ _ _ _ _ (by decide), p3 12 (by decide)])
      have hZ : RZ f e (sA (sA R1 9 N (R1.1 6)) 10 N (R1.1 7)) (sA (sA s' 16 (219 + N) (Int32.ofInt ((b - a : Nat) : Int))) 16 5 (Int32.ofInt ((N + 1 : Nat) : Int))) :=
        RZ_c (sMo := M1) G1.z p2 (by rw [sA_n _ _ _ _ _ (by decide), sA_n _ _ _ _ _ (by decide), p3 1 (by decide)])
      obtain ⟨R2, M2, m1, m2, m3, m4, m5⟩ := N_next hF hZ hR
      have eM : M2.2.2.1 16 = upd (upd (s'.2.2.1 16) (219 + N) (Int32.ofInt ((b - a : Nat) : Int))) 5 (Int32.ofInt ((N + 1 : Nat) : Int)) := by
        rw [m5.2 16 (by decide), sA_u, sA_u]
      have eN1 : (N : Int) + 1 = ((N + 1 : Nat) : Int) := by omega
      have hk : ∀ k, k ≠ 5 → k ≠ 219 + N → (k < 228 + 8 * N ∨ 236 + 8 * N ≤ k) → M2.2.2.1 16 k = M1.2.2.1 16 k := by
        intro k g1 g2 g3
        rw [eM, up_n _ _ _ _ g1, up_n _ _ _ _ g2, p4 k (by omega)]
      have g5 : M2.2.2.1 16 5 = Int32.ofInt ((N + 1 : Nat) : Int) := by rw [eM, up_s]
      have t5 : (M2.2.2.1 16 5).toInt = N + 1 := by rw [g5, n_toI _ (by omega) (by omega)]; omega
      have X2 : FX M1 M2 := by
        refine FX_t (s' := s') ⟨fun j hj => by rw [p2], fun a _ h => p3 a h⟩ (FX_t (FX_t (FX_a _ _ _) (FX_a _ _ _)) (FX_m m5))
      refine Or.inl ⟨R2, sI sSp 5 (Int32.ofInt ((N + 1 : Nat) : Int)), M2, ?_, ?_, ⟨RZ_f hZ (FRd_w m4) m5, m3, ?_, ?_, ?_, ?_, ?_, ?_, ?_⟩, FX_t X1 X2⟩
      · rw [if_pos (show Int32.ofInt (-1) = -1 from rfl), q5, n_gd _ _ _ (by omega) (by omega) (by omega), n_ix _ (by omega) (by omega), tn, lz_t, n_gd _ _ _ (by omega) (by omega) (by omega), lz_t, lz_t, lz_t, z_1, n_add, eN1]
        have m1' : f_X7_lookOn F 800 f (sA (sA R1 9 N (R1.1 6)) 10 N ((sA R1 9 N (R1.1 6)).1 7)) = some R2 := m1
        rw [m1']; rfl
      · rw [if_pos (by decide)]
        unfold f_X11_placeLine_35
        rw [G1.ok, if_pos rfl, gd_t (by decide), lz_t, show (5 : Int32).toNatClampNeg = 5 from rfl, r5]
        refine Eq.trans p1 ?_
        unfold f_X11_placeLine_87
        have e219 : (219 : Int) + (N : Int) = ((219 + N : Nat) : Int) := by omega
        have s5' : (sA s' 16 (219 + N) (Int32.ofInt ((b - a : Nat) : Int))).2.2.1 16 5 = Int32.ofInt (N : Int) := by rw [sA_u, up_n _ _ _ _ (by omega), s5]
        simp (disch := omega) only [z_0, z_1, z_2, z_3, z_4, z_5, z_6, z_7, z_8, z_9, z_10, z_11, z_12, z_14, z_18, z_20, z_22, z_24, z_32, z_38, z_40, z_41, z_44, z_48, z_49, z_57, z_59, z_60, z_63, z_65, z_74, z_75, z_81, z_97, z_99, z_104, z_115, z_119, z_122, z_200, z_209, z_210, z_219, z_228, z_255, z_300, z_369, z_999, z_65537, z_268435456, z_1000000000, n_nat, n_add, n_sub, n_mul, n_neg, n_lt, n_le, n_eq, n_ix, n_gd, n_nz, lz_t, bd_some, tn, Int.reduceToNat, tn_1, if_pos, if_neg, if_true, if_false, e219, s8, s5', eN1, m2]
      · rw [m5.1 13 (by omega), sA_1, sA_1, p2]; exact G1.ok
      · rw [m5.1 9 (by omega), sA_1, sA_1, p2]; exact G1.no
      · rw [m4.1 0 (by omega), sA_1, sA_1]; exact G1.f0
      · rw [m4.1 1 (by omega), sA_1, sA_1]; exact G1.f1
      · refine ⟨?_, ?_, RoK_c (fun k _ => hk _ (by omega) (by omega) (by omega)) (by omega) pk.ro, MiK_c (fun k _ => hk _ (by omega) (by omega) (by omega)) pk.mi, PuK_c (fun k _ => hk _ (by omega) (by omega) (by omega)) pk.pu, WyK_c (hk 8 (by omega) (by omega) (by omega)) (by have := pk.nu.2.2.2.1; omega) (fun k _ => hk _ (by omega) (by omega) (by omega)) (fun k _ h => by rw [hk _ (by omega) (by omega) (by omega)]; exact h) (by omega) (by omega) pk.wy, ReK_c (hk 9 (by omega) (by omega) (by omega)) (by have := pk.nu.2.2.2.2; omega) (fun k _ => hk _ (by omega) (by omega) (by omega)) (fun k _ h => by rw [hk _ (by omega) (by omega) (by omega)]; exact h) (by omega) (by omega) pk.re⟩
        · have := pk.ca
          unfold CaK at *
          rw [hk 10 (by omega) (by omega) (by omega), hk 0 (by omega) (by omega) (by omega), hk 1 (by omega) (by omega) (by omega), hk 2 (by omega) (by omega) (by omega), hk 3 (by omega) (by omega) (by omega), hk 4 (by omega) (by omega) (by omega)]
          rcases this with ⟨g, -⟩ | g
          · rw [h10] at g; exact absurd g (by decide)
          · exact Or.inr g
        · have := pk.nu
          unfold NuK at *
          rw [hk 6 (by omega) (by omega) (by omega), hk 7 (by omega) (by omega) (by omega), hk 8 (by omega) (by omega) (by omega), hk 9 (by omega) (by omega) (by omega)]
          exact ⟨by omega, this.2⟩
      · refine ⟨?_, fun k hk' => by rw [hk _ (by omega) (by omega) (by omega)]; exact rp.pin k hk', fun k hk' => by rw [hk _ (by omega) (by omega) (by omega)]; exact rp.min k hk', fun p hp => by rw [hk _ (by omega) (by omega) (by omega), hk _ (by omega) (by omega) (by omega), hk _ (by omega) (by omega) (by omega)]; exact rp.pum p hp, fun i hi => ?_, fun hi => ?_, fun i hi => ?_, fun i hi => ?_⟩
        · intro k hk'
          by_cases c : k = 5
          · subst c
            rw [sI_s, g5]
          · rw [sI_n _ _ _ _ c, hk k c (by omega) (by omega)]
            exact rp.num k hk'
        · rw [hk 8 (by omega) (by omega) (by omega)] at hi
          have := pk.nu.2.2.2.1
          rw [hk _ (by omega) (by omega) (by omega)]
          exact rp.way i hi
        · rw [hk 8 (by omega) (by omega) (by omega)] at hi
          exact rp.up0 hi
        · rw [hk 8 (by omega) (by omega) (by omega)] at hi
          have b8 := pk.nu.2.2.2.1
          have h1 := pk.wy.1 i (by omega)
          have h2 := pk.wy.1 (i + 1) (by omega)
          have c1 := i_nat _ h1.1
          have c2 := i_nat _ h2.1
          rw [hk (200 + i) (by omega) (by omega) (by omega), hk (200 + (i + 1)) (by omega) (by omega) (by omega), hk (38 + _) (by omega) (by omega) (by omega)]
          exact rp.upt i hi
        · rw [hk 9 (by omega) (by omega) (by omega)] at hi
          have := pk.nu.2.2.2.2
          rw [hk _ (by omega) (by omega) (by omega), hk _ (by omega) (by omega) (by omega)]
          exact rp.rec i hi
      · intro n hn
        rw [t5] at hn
        have eA : R2.2 = (sA (sA R1 9 N (R1.1 6)) 10 N (R1.1 7)).2 := m4.2
        by_cases c : n = N
        · subst c
          refine ⟨a, b, d1.2, d2, w4, ?_, ?_, ?_, ?_⟩
          · rw [eA, sA_n _ _ _ _ _ (by decide), sA_g, d3]
          · rw [eA, sA_g, d5]
          · rw [eM, up_n _ _ _ _ (by omega), up_s]
          · intro j hj
            rw [eM, up_n _ _ _ _ (by omega), up_n _ _ _ _ (by omega), p5 j (by omega) hj, w6 j hj]
        · obtain ⟨a0, b0, g1, g2, g3, g4, g5, g6, g7⟩ := nm n (by rw [hN]; omega)
          refine ⟨a0, b0, g1, g2, g3, ?_, ?_, ?_, ?_⟩
          · rw [eA, sA_n _ _ _ _ _ (by decide), sA_u, up_n _ _ _ _ c, g4]
          · rw [eA, sA_u, up_n _ _ _ _ c, sA_n _ _ _ _ _ (by decide), g5]
          · rw [hk _ (by omega) (by omega) (by omega), g6]
          · intro j hj
            rw [hk _ (by omega) (by omega) (by omega), g7 j hj]
    · refine Or.inr ⟨faS R1 3 (R1.1 6), sSp, wrS M1 3 (M1.1 4), ?_, ?_, FX_t X1 (FX_w _ _ _), ?_⟩
      · rw [if_neg (by rw [show (-1 : Int32) = Int32.ofInt (-1) from rfl, n_eq _ _ (by omega) (by omega) (by omega) (by omega)]; omega), fail_e]; rfl
      · rw [e4]; exact BAD_w _ _ _ _
      · rw [if_neg (by rw [z_0, n_lt _ _ (by omega) (by omega) (by omega) (by omega)]; omega), wrong_e _ _ G1.ok, bd_some, W35]
        exact FT_r _
