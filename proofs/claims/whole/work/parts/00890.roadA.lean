/-! the text, line by line -/
theorem B_road77 {F : Nat} {p : Int32} {n : Nat} {s : MS} (h : s.1 13 = Int32.ofInt 1) : f_X11_road_77 F p (n + 1) s = f_X11_road_164 F p s := by
  have n1 : ¬ s.1 13 = 0 := by rw [h]; decide
  rw [f_X11_road_77, if_neg n1]
  unfold f_X11_road_104 f_X11_road_127
  rw [if_neg n1, if_neg n1]
def RDY (F : Nat) (p : Int32) (oc : Option (Int32 × MS × MS)) (om : Option (Int32 × MS)) (sMo : MS) : Prop :=
  (∃ R s M, oc = some (1, R, s) ∧ om = f_X11_road_164 F p M ∧ M.1 13 = 0 ∧ M.1 9 = 0 ∧ R.1 0 = 0 ∧ PK (M.2.2.1 16) ∧ RP s (M.2.2.1 16) ∧ M.2.2.1 16 10 ≠ 0 ∧ 0 < (M.2.2.1 16 8).toInt ∧ FX sMo M) ∨
  (∃ R s M, oc = some (0, R, s) ∧ om = f_X11_road_164 F p M ∧ BAD R M ∧ FX sMo M)
theorem BAD_c {R M M' : MS} (h : BAD R M) (e : M'.1 = M.1) : BAD R M' := by
  unfold BAD at *
  rw [e]
  exact h
theorem FX_c {s s' s2 : MS} (h : FX s s') (e : s2.1 = s'.1) (g : ∀ a, a ≠ 16 → s2.2.2.1 a = s'.2.2.1 a) : FX s s2 := ⟨fun k hk => by rw [e]; exact h.1 k hk, fun a h1 h2 => (g a h2).trans (h.2 a h1 h2)⟩
theorem RD_w {f : Nat → Int32} {e Lb : Nat} {R M : MS} (h : RD f e (Lb + 1) R M) : RD f e Lb R M := by
  obtain ⟨a, b, d1, d2⟩ := h
  exact ⟨a, b, ⟨by omega, d1.2⟩, d2⟩
theorem road_go {F : Nat} (hF : 1000 ≤ F) {f : Nat → Int32} {e : Nat} {p p2 : Int32} {sM0 : MS} : ∀ (d Lb n n2 : Nat) (R s M : MS), e < Lb + d → d ≤ n → d ≤ n2 → GD f e Lb R s M → FX sM0 M → RDY F p (f_X7_readRoad_44 F 800 f p2 n (Int32.ofInt (Lb : Int)) R s) (bd (f_X11_readLine F M) fun o => f_X11_road_77 F p n2 o) sM0 := by
  intro d
  induction d with
  | zero =>
    intro Lb n n2 R s M h1 h2 h3 G hX
    obtain ⟨a, b, d1, d2, -⟩ := G.d
    omega
  | succ d ih =>
    intro Lb n n2 R s M h1 h2 h3 G hX
    obtain ⟨n, rfl⟩ : ∃ k, n = k + 1 := ⟨n - 1, by omega⟩
    obtain ⟨n2, rfl⟩ : ∃ k, n2 = k + 1 := ⟨n2 - 1, by omega⟩
    have he : e ≤ 800 := G.z.1
    have hLe : Lb ≤ e := by
      obtain ⟨a, b, d1, d2, -⟩ := G.d
      omega
    have c0 : ¬ R.1 3 < Int32.ofInt (Lb : Int) := by
      rw [G.z.2.1, n_lt _ _ (by omega) (by omega) (by omega) (by omega)]
      omega
    have n1 : ¬ (1 : Int32) = 0 := by decide
    have z59 : (59 : Int32) = Int32.ofInt 59 := rfl
    rw [f_X7_readRoad_44, if_neg c0]
    rcases LN_line hF G with (⟨R1, s1, M1, l1, l2, G1, X1⟩ | ⟨R1, s1, M1, l1, l2, l3, M', l4, l5, l6⟩) | ⟨R1, s1, M1, l1, l2, l3, l4, l5, M', l6, l7, l8⟩
    · rw [l1, l2, bd_some, bd_some, if_neg n1]
      have X2 := FX_t hX X1
      have hk := kind0 G1.d
      by_cases c5 : R1.1 5 = 0
      · have c6 : M1.1 6 = 0 := hk.mp c5
        have c59 : ¬ M1.1 6 = 59 := by rw [c6]; decide
        have m1 : f_X11_road_77 F p (n2 + 1) M1 = f_X11_road_127 F p M1 := by
          rw [f_X11_road_77, if_pos G1.ok, if_neg c59]
          unfold f_X11_road_104
          rw [if_pos G1.ok, if_pos c6]
        rw [m1, if_pos c5]
        show RDY F p (f_X7_readRoad_69 F 800 f p2 R1 s1) _ _
        unfold f_X7_readRoad_69 f_X9_isTold f_X11_road_127 f_X7_readRoad_88
        rw [if_pos G1.ok, gd_t (by decide), lz_t, show (10 : Int32).toNatClampNeg = 10 from rfl, gd_t (by decide), lz_t, show (8 : Int32).toNatClampNeg = 8 from rfl]
        have e8 : s1.1 8 = M1.2.2.1 16 8 := G1.rp.num 8 (by omega)
        have h0 : (0 : Int32).toInt = 0 := rfl
        have n8 := G1.pk.nu.2.2.2.1
        by_cases c8 : s1.1 8 ≤ 0
        · have r8 : M1.2.2.1 16 8 = 0 := by
            rw [e8, i_le, h0] at c8
            rw [i_eq, h0]
            omega
          have hm : (if M1.2.2.1 16 10 = 0 then f_X11_road_154 F p M1 else if M1.2.2.1 16 8 = 0 then f_X11_road_154 F p M1 else f_X11_road_164 F p M1) = f_X11_road_154 F p M1 := by
            rw [if_pos r8]
            split <;> rfl
          rw [hm, if_pos c8, bd_some, if_pos rfl, fail_e, bd_some, if_pos rfl]
          unfold f_X11_road_154
          rw [wrong_e _ _ G1.ok, bd_some]
          refine Or.inr ⟨faS R1 6 (R1.1 6), s1, wrS M1 6 (M1.1 4), rfl, rfl, ?_, FX_t X2 (FX_w _ _ _)⟩
          rw [RD_46 G1.d]
          exact BAD_w _ _ _ _
        · have r8 : ¬ M1.2.2.1 16 8 = 0 := by
            rw [e8, i_le, h0] at c8
            rw [i_eq, h0]
            omega
          have r10 : ¬ M1.2.2.1 16 10 = 0 := by
            intro h
            rcases G1.pk.ca with ⟨-, g⟩ | ⟨g, -⟩
            · exact r8 (g 8 (by omega))
            · rw [g] at h
              exact absurd h (by decide)
          rw [if_neg c8, bd_some, if_neg n1, if_neg r10, if_neg r8]
          refine Or.inl ⟨R1, s1, M1, rfl, rfl, G1.ok, G1.no, G1.f0, G1.pk, G1.rp, r10, ?_, X2⟩
          rw [e8, i_le, h0] at c8
          omega
      · have c6 : ¬ M1.1 6 = 0 := fun h => c5 (hk.mpr h)
        rw [if_neg c5]
        obtain ⟨v, t1, t2⟩ := T_sign (F := F) G1.z G1.d (c := 59) (Or.inr rfl)
        have t1' : f_X7_isSign F R1 800 f 59 = some (bi v) := t1
        show RDY F p (bd (f_X7_passSign F 800 f 59 R1) fun o11 => if o11.1 = (0 : Int32) then (some ((0 : Int32), o11.2, s1)) else (lz (Int32.ofInt (Lb : Int) + (1 : Int32)) fun v13 => f_X7_readRoad_44 F 800 f p2 n v13 o11.2 s1)) _ _
        unfold f_X7_passSign
        rw [t1', bd_some]
        cases v with
        | false =>
          have c59 : ¬ M1.1 6 = 59 := fun h => absurd (t2.mpr h) (by decide)
          have m1 : f_X11_road_77 F p (n2 + 1) M1 = f_X11_road_164 F p (wrS M1 1 (M1.1 4)) := by
            have hb := wrS_13 M1 1 (M1.1 4)
            rw [f_X11_road_77, if_pos G1.ok, if_neg c59]
            unfold f_X11_road_104
            rw [if_pos G1.ok, if_neg c6, wrong_e _ _ G1.ok, bd_some]
            unfold f_X11_road_127
            rw [if_neg (show ¬ (wrS M1 1 (M1.1 4)).1 13 = 0 by rw [hb]; decide)]
          rw [m1, if_pos (show bi false = 0 from rfl), fail_e, bd_some]
          refine Or.inr ⟨faS R1 1 (R1.1 6), s1, wrS M1 1 (M1.1 4), rfl, rfl, ?_, FX_t X2 (FX_w _ _ _)⟩
          rw [RD_46 G1.d]
          exact BAD_w _ _ _ _
        | true =>
          have c59 : M1.1 6 = 59 := t2.mp rfl
          have q : ∃ R2 M2, f_X7_lookOn F 800 f R1 = some R2 ∧ f_X11_next F M1 = some M2 ∧ RD f e (Lb + 1) R2 M2 ∧ FRd R1 R2 ∧ FMo M1 M2 := by
            obtain ⟨a, b, d1, d2, d3, d4, d5, d6, d7⟩ := G1.d
            have hab : a < b := by
              rcases d7 with ⟨w1, w2⟩ | ⟨w1, w2, w3, -⟩ | ⟨w1, w2, w3, -⟩ | ⟨w1, w3, w2⟩ | ⟨w1, w2⟩
              · exact absurd w1 c5
              · exact w3
              · exact w3
              · exact w3
              · rw [w2] at c59
                exact absurd c59 (by decide)
            exact P_next hF G1.z (Lb := Lb + 1) (b := b) (by omega) d2 d5 d6
          obtain ⟨R2, M2, q1, q2, q3, q4, q5⟩ := q
          have G2 := GD_k G1 ⟨RD_w q3, FRd_w q4, q5⟩
          have G3 : GD f e (Lb + 1) R2 s1 M2 := ⟨G2.z, q3, G2.ok, G2.no, G2.f0, G2.f1, G2.pk, G2.rp, G2.nm⟩
          have m1 : f_X11_road_77 F p (n2 + 1) M1 = bd (f_X11_readLine F M2) fun o => f_X11_road_77 F p n2 o := by
            rw [f_X11_road_77, if_pos G1.ok, if_pos c59, q2, bd_some]
          have eL : Int32.ofInt (Lb : Int) + 1 = Int32.ofInt ((Lb + 1 : Nat) : Int) := by
            rw [z_1, n_add]
            rfl
          rw [m1, if_neg (show ¬ bi true = 0 by decide), q1, bd_some, bd_some, if_neg n1, lz_t, eL]
          exact ih (Lb + 1) n n2 R2 s1 M2 (by omega) (by omega) (by omega) G3 (FX_t X2 (FX_m q5))
    · rw [l1, l4, bd_some, bd_some, if_pos rfl, B_road77 (show M'.1 13 = Int32.ofInt 1 by rw [l5]; exact l2.1)]
      exact Or.inr ⟨R1, s1, M', rfl, rfl, BAD_c l2 l5, FX_t hX (FX_c l3 l5 l6)⟩
    · have l3' : f_X7_isSign F R1 800 f 59 = some 0 := l3
      rw [l1, l6, bd_some, bd_some, if_neg n1, if_neg l2, B_road77 (show M'.1 13 = Int32.ofInt 1 by rw [l7]; exact l4.1)]
      show RDY F p (bd (f_X7_passSign F 800 f 59 R1) fun o11 => if o11.1 = (0 : Int32) then (some ((0 : Int32), o11.2, s1)) else (lz (Int32.ofInt (Lb : Int) + (1 : Int32)) fun v13 => f_X7_readRoad_44 F 800 f p2 n v13 o11.2 s1)) _ _
      unfold f_X7_passSign
      rw [l3', bd_some, if_pos rfl, fail_e, bd_some]
      exact Or.inr ⟨faS R1 1 (R1.1 6), s1, M', rfl, rfl, BAD_c l4 l7, FX_t hX (FX_c l5 l7 l8)⟩
