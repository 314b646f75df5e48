/-! a line -/
theorem ite_ab {α : Type} {c : Prop} [Decidable c] (g : Int32 → α) : (if c then g 0 else g 1) = g (if c then 0 else 1) := by
  split <;> rfl
theorem LN_line {F : Nat} (hF : 1000 ≤ F) {f : Nat → Int32} {e Lb : Nat} {sRd sSp sMo : MS} (G : GD f e Lb sRd sSp sMo) : LN3 F f e Lb (f_X7_readLine F 800 f sRd sSp) (f_X11_readLine F sMo) sMo := by
  obtain ⟨v0, a0, b0, -⟩ := P_isWord hF G.z G.d G.ok (p := 0) (by decide)
  obtain ⟨v1, a1, b1, -⟩ := P_isWord hF G.z G.d G.ok (p := 1) (by decide)
  obtain ⟨v2, a2, b2, -⟩ := P_isWord hF G.z G.d G.ok (p := 2) (by decide)
  obtain ⟨v3, a3, b3, -⟩ := P_isWord hF G.z G.d G.ok (p := 3) (by decide)
  obtain ⟨v4, a4, b4, -⟩ := P_isWord hF G.z G.d G.ok (p := 4) (by decide)
  obtain ⟨v5, a5, b5, -⟩ := P_isWord hF G.z G.d G.ok (p := 5) (by decide)
  have e0 : sSp.1 0 = sMo.2.2.1 16 0 := G.rp.num 0 (by omega)
  have e5 : sSp.1 5 = sMo.2.2.1 16 5 := G.rp.num 5 (by omega)
  have e6 : sSp.1 6 = sMo.2.2.1 16 6 := G.rp.num 6 (by omega)
  have e7 : sSp.1 7 = sMo.2.2.1 16 7 := G.rp.num 7 (by omega)
  have e8 : sSp.1 8 = sMo.2.2.1 16 8 := G.rp.num 8 (by omega)
  have e9 : sSp.1 9 = sMo.2.2.1 16 9 := G.rp.num 9 (by omega)
  have bt : ¬ bi true = 0 := by decide
  have bf : bi false = 0 := rfl
  have h0 : (0 : Int32).toInt = 0 := rfl
  have car : ∀ k, k < 10 → (sMo.2.2.1 16 k).toInt ≠ 0 → sMo.2.2.1 16 10 = 1 := by
    intro k hk h
    rcases G.pk.ca with ⟨-, g⟩ | ⟨g, -⟩
    · rw [g k hk] at h; exact absurd rfl h
    · exact g
  unfold f_X7_readLine f_X11_readLine
  rw [a0, b0, bd_some, bd_some]
  cases v0 with
  | true =>
    rw [if_neg bt, if_neg bt]
    unfold f_X11_carLine
    rw [gd_t (by decide), lz_t, show (10 : Int32).toNatClampNeg = 10 from rfl]
    rcases G.pk.ca with ⟨g, g0⟩ | ⟨g, g0, -⟩
    · rw [if_pos (show sSp.1 0 ≤ 0 by rw [e0, g0 0 (by omega)]; decide), g, if_neg (by decide)]
      exact LN3_b (Or.inl (LN_car hF G g))
    · rw [if_neg (show ¬ sSp.1 0 ≤ 0 by rw [e0, i_le, h0]; omega), g, if_pos rfl, wrong_e _ _ G.ok, bd_some, B_carLine_20 _ (wrS_13 _ _ _)]
      exact fail3 G.d 3
  | false =>
    rw [if_pos bf, if_pos bf, gd_t (by decide), lz_t, show (5 : Int32).toNatClampNeg = 5 from rfl, ite_ab (fun y => f_X11_readLine_35 F y sMo), a1, bd_some]
    unfold f_X11_readLine_35
    cases v1 with
    | true =>
      rw [if_neg bt]
      unfold f_X7_readLine_83
      rw [a1, bd_some, if_neg bt]
      have h9 : (9 : Int32).toInt = 9 := rfl
      exact kw_line G b1 (fun h => by rw [e5, i_lt] at h; exact if_neg (by rw [i_le]; omega)) (fun h => by rw [e5, i_lt] at h; exact if_pos (by rw [i_le]; omega)) (fun h => by rw [e5, i_lt] at h; exact car 5 (by omega) (by omega)) B_placeLine (fun r10 h => by rw [e5, i_lt] at h; exact LN_place hF G r10 (by omega))
    | false =>
      rw [begins_no b1, bd_some, if_pos bf, if_pos (show (0, sMo).1 = (0 : Int32) from rfl)]
      show LN3 F f e Lb _ (gd (vpb (6 : Int32) 300) <| lz (sMo.2.2.1 16 (6 : Int32).toNatClampNeg) fun v10 => if (14 : Int32) ≤ v10 then (f_X11_readLine_68 F (0 : Int32) sMo) else (f_X11_readLine_68 F (1 : Int32) sMo)) sMo
      rw [gd_t (by decide), lz_t, show (6 : Int32).toNatClampNeg = 6 from rfl, ite_ab (fun y => f_X11_readLine_68 F y sMo), a2, bd_some]
      unfold f_X11_readLine_68
      cases v2 with
      | true =>
        rw [if_neg bt]
        unfold f_X7_readLine_83
        rw [a1, bd_some, if_pos bf, a2, bd_some, if_neg bt]
        have h14 : (14 : Int32).toInt = 14 := rfl
        exact kw_line G b2 (fun h => by rw [e6, i_lt] at h; exact if_neg (by rw [i_le]; omega)) (fun h => by rw [e6, i_lt] at h; exact if_pos (by rw [i_le]; omega)) (fun h => by rw [e6, i_lt] at h; exact car 6 (by omega) (by omega)) B_roadLine (fun r10 h => by rw [e6, i_lt] at h; exact LN_road hF G r10 (by omega))
      | false =>
        rw [begins_no b2, bd_some, if_pos bf, if_pos (show (0, sMo).1 = (0 : Int32) from rfl)]
        show LN3 F f e Lb _ (gd (vpb (7 : Int32) 300) <| lz (sMo.2.2.1 16 (7 : Int32).toNatClampNeg) fun v16 => if (8 : Int32) ≤ v16 then (f_X11_readLine_101 F (0 : Int32) sMo) else (f_X11_readLine_101 F (1 : Int32) sMo)) sMo
        rw [gd_t (by decide), lz_t, show (7 : Int32).toNatClampNeg = 7 from rfl, ite_ab (fun y => f_X11_readLine_101 F y sMo), a3, bd_some]
        unfold f_X11_readLine_101
        cases v3 with
        | true =>
          rw [if_neg bt]
          unfold f_X7_readLine_83
          rw [a1, bd_some, if_pos bf, a2, bd_some, if_pos bf, a3, bd_some, if_neg bt]
          have h8 : (8 : Int32).toInt = 8 := rfl
          exact kw_line G b3 (fun h => by rw [e7, i_lt] at h; exact if_neg (by rw [i_le]; omega)) (fun h => by rw [e7, i_lt] at h; exact if_pos (by rw [i_le]; omega)) (fun h => by rw [e7, i_lt] at h; exact car 7 (by omega) (by omega)) B_pumpLine (fun r10 h => by rw [e7, i_lt] at h; exact LN_pump hF G r10 (by omega))
        | false =>
          rw [begins_no b3, bd_some, if_pos bf, if_pos (show (0, sMo).1 = (0 : Int32) from rfl)]
          show LN3 F f e Lb _ (bd (f_X11_isWord F sMo 4) fun o21 => if o21 = (0 : Int32) then (gd (vpb (9 : Int32) 300) <| lz (sMo.2.2.1 16 (9 : Int32).toNatClampNeg) fun v24 => if (5 : Int32) ≤ v24 then (f_X11_readLine_149 F (0 : Int32) sMo) else (f_X11_readLine_149 F (1 : Int32) sMo)) else (bd (f_X11_wayLine F sMo) fun o26 => some o26)) sMo
          rw [b4, a4, bd_some, bd_some]
          cases v4 with
          | true =>
            rw [if_neg bt, if_neg bt]
            unfold f_X7_readLine_83 f_X9_isTold f_X11_wayLine f_X11_wayLine_19
            rw [a1, bd_some, if_pos bf, a2, bd_some, if_pos bf, a3, bd_some, if_pos bf, a4, bd_some, if_neg bt, gd_t (by decide), lz_t, show (8 : Int32).toNatClampNeg = 8 from rfl, gd_t (by decide), lz_t, show (10 : Int32).toNatClampNeg = 10 from rfl]
            rcases G.pk.ca with ⟨g, g0⟩ | ⟨g, g0, -⟩
            · rw [if_pos (e0.trans (g0 0 (by omega))), if_pos (show sMo.2.2.1 16 8 ≤ 0 by rw [g0 8 (by omega)]; decide), g, if_pos rfl, wrong_e _ _ G.ok, bd_some, B_wayLine_39 _ (wrS_13 _ _ _)]
              exact fail3 G.d 6
            · have c0 : ¬ sSp.1 0 = 0 := by
                rw [e0, i_eq, h0]; omega
              rw [if_neg c0, e8]
              by_cases c : sMo.2.2.1 16 8 ≤ 0
              · rw [if_pos c, if_pos c, bd_some, if_pos rfl, g, if_neg (by decide)]
                exact LN3_b (LN_way hF G g)
              · have hb := wrS_13 sMo 3 (sMo.1 4)
                rw [if_neg c, if_neg c, bd_some, if_neg (by decide), wrong_e _ _ G.ok, bd_some, gd_t (by decide), lz_t]
                have g10 : (wrS sMo 3 (sMo.1 4)).2.2.1 16 10 = 1 := g
                rw [g10, if_neg (by decide), B_wayLine_39 _ hb]
                exact fail3 G.d 3
          | false =>
            rw [if_pos bf, if_pos bf, gd_t (by decide), lz_t, show (9 : Int32).toNatClampNeg = 9 from rfl, ite_ab (fun y => f_X11_readLine_149 F y sMo), a5, bd_some]
            unfold f_X11_readLine_149
            cases v5 with
            | true =>
              rw [if_neg bt]
              unfold f_X7_readLine_83
              rw [a1, bd_some, if_pos bf, a2, bd_some, if_pos bf, a3, bd_some, if_pos bf, a4, bd_some, if_pos bf]
              have h5 : (5 : Int32).toInt = 5 := rfl
              exact kw_line G b5 (fun h => by rw [e9, i_lt] at h; exact if_neg (by rw [i_le]; omega)) (fun h => by rw [e9, i_lt] at h; exact if_pos (by rw [i_le]; omega)) (fun h => by rw [e9, i_lt] at h; exact car 9 (by omega) (by omega)) B_receiptLine (fun r10 h => by rw [e9, i_lt] at h; exact LN_rec hF G r10 (by omega))
            | false =>
              rw [if_pos bf, begins_no b5, bd_some, if_pos (show (0, sMo).1 = (0 : Int32) from rfl)]
              have w1 : f_X11_wrong F 1 ((0, sMo).2.1 4) (0, sMo).2 = some (wrS sMo 1 (sMo.1 4)) := wrong_e _ _ G.ok
              rw [w1, bd_some]
              exact fail3 G.d 1
