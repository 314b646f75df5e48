/-! names that are told -/
theorem P_name {F : Nat} (hF : 1000 ≤ F) {f : Nat → Int32} {e Lb : Nat} {sRd sMo : MS} (hE : RZ f e sRd sMo) (hD : RD f e Lb sRd sMo) (h13 : sMo.1 13 = 0) : ∃ v : Bool, f_X7_isName F sRd 800 f = some (bi v) ∧ f_X11_mustName F sMo = some (if v = true then sMo else wrS sMo 1 (sMo.1 4)) ∧ (v = true → sRd.1 5 = 1) := by
  obtain ⟨v0, a0, b0, c0⟩ := P_isWord hF hE hD h13 (p := 0) (by decide)
  obtain ⟨v1, a1, b1, c1⟩ := P_isWord hF hE hD h13 (p := 1) (by decide)
  obtain ⟨v2, a2, b2, c2⟩ := P_isWord hF hE hD h13 (p := 2) (by decide)
  obtain ⟨v3, a3, b3, c3⟩ := P_isWord hF hE hD h13 (p := 3) (by decide)
  obtain ⟨v4, a4, b4, c4⟩ := P_isWord hF hE hD h13 (p := 4) (by decide)
  obtain ⟨v5, a5, b5, c5⟩ := P_isWord hF hE hD h13 (p := 5) (by decide)
  obtain ⟨v13, a13, b13, c13⟩ := P_isWord hF hE hD h13 (p := 13) (by decide)
  have hw : f_X11_mustName_81 F sMo = some (wrS sMo 1 (sMo.1 4)) := by
    unfold f_X11_mustName_81
    rw [wrong_e _ _ h13]; rfl
  have h63 : f_X11_mustName_63 F sMo = some (wrS sMo 1 (sMo.1 4)) := by
    unfold f_X11_mustName_63 f_X11_mustName_68
    by_cases c : sMo.1 6 = 2
    · rw [if_pos c, if_neg (by decide), hw]
    · rw [if_neg c, hw]
  unfold f_X7_isName f_X11_mustName
  rw [h63, a0, b0, a1, b1, a2, b2, a3, b3, a4, b4, a5, b5, a13, b13]
  cases v0 with
  | true => exact ⟨false, by rw [if_pos (c0 rfl).1]; rfl, rfl, by simp⟩
  | false =>
    cases v1 with
    | true => exact ⟨false, by rw [if_pos (c1 rfl).1]; rfl, rfl, by simp⟩
    | false =>
      cases v2 with
      | true => exact ⟨false, by rw [if_pos (c2 rfl).1]; rfl, rfl, by simp⟩
      | false =>
        cases v3 with
        | true => exact ⟨false, by rw [if_pos (c3 rfl).1]; rfl, rfl, by simp⟩
        | false =>
          cases v4 with
          | true => exact ⟨false, by rw [if_pos (c4 rfl).1]; rfl, rfl, by simp⟩
          | false =>
            cases v5 with
            | true => exact ⟨false, by rw [if_pos (c5 rfl).1]; rfl, rfl, by simp⟩
            | false =>
              cases v13 with
              | true => exact ⟨false, by rw [if_pos (c13 rfl).1]; rfl, rfl, by simp⟩
              | false =>
                obtain ⟨a, b, d1, d2, d3, d4, d5, d6, d7⟩ := hD
                have K : sRd.1 5 = 1 ∧ sMo.1 6 = 2 ∨ sRd.1 5 ≠ 1 ∧ sMo.1 6 ≠ 2 := by
                  rcases d7 with ⟨w1, w2⟩ | ⟨w1, w2, -⟩ | ⟨w1, w2, -⟩ | ⟨w1, w3, w2⟩ | ⟨w1, w2⟩
                  · exact Or.inr ⟨by rw [w1]; decide, by rw [w2]; decide⟩
                  · exact Or.inl ⟨w1, w2⟩
                  · exact Or.inr ⟨by rw [w1]; decide, by rw [w2]; decide⟩
                  · exact Or.inr ⟨by rw [w1]; decide, by rcases w2 with ⟨w2, -⟩ | ⟨w2, -⟩ <;> (rw [w2]; decide)⟩
                  · exact Or.inr ⟨by rw [w1]; decide, by rw [w2]; decide⟩
                rcases K with ⟨k1, k2⟩ | ⟨k1, k2⟩
                · refine ⟨true, by rw [if_pos k1]; rfl, ?_, fun _ => k1⟩
                  show f_X11_mustName_68 F 0 sMo = some sMo
                  unfold f_X11_mustName_68
                  rw [if_pos k2, if_pos rfl]
                · refine ⟨false, by rw [if_neg k1]; rfl, ?_, by simp⟩
                  show f_X11_mustName_68 F 0 sMo = some (wrS sMo 1 (sMo.1 4))
                  unfold f_X11_mustName_68
                  rw [if_neg k2, hw]
theorem P_find {F : Nat} (hF : 1000 ≤ F) {f : Nat → Int32} {e Lb N : Nat} {sRd sRo sMo : MS} (hE : RZ f e sRd sMo) (hD : RD f e Lb sRd sMo) (k1 : sRd.1 5 = 1) (hN : NM f e sRd (sMo.2.2.1 16)) (hM : N ≤ 9) (r5 : sMo.2.2.1 16 5 = Int32.ofInt (N : Int)) (q5 : sRo.1 5 = Int32.ofInt (N : Int)) : ∃ z : Int, (z = -1 ∨ (0 ≤ z ∧ z < N)) ∧ f_X7_placeNamed F sRd 800 f sRo = some (Int32.ofInt z) ∧ f_X11_find F sMo = some (Int32.ofInt z) := by
  obtain ⟨a, b, d1, d2, d3, d4, d5, d6, d7⟩ := hD
  have he := hE.1
  rcases d7 with ⟨w1, w2⟩ | ⟨w1, w2, w3, w4, w5, w6⟩ | ⟨w1, w2, -⟩ | ⟨w1, w3, w2⟩ | ⟨w1, w2⟩
  · rw [w1] at k1; exact absurd k1 (by decide)
  · exact find_go hF he w3 d2 w4 d3 d5 w5 w6 hN hM r5 q5 N 0 F F (by omega) (by omega) (by omega)
  · rw [w1] at k1; exact absurd k1 (by decide)
  · rw [w1] at k1; exact absurd k1 (by decide)
  · rw [w1] at k1; exact absurd k1 (by decide)
theorem RD_46 {f : Nat → Int32} {e Lb : Nat} {sRd sMo : MS} (hD : RD f e Lb sRd sMo) : sRd.1 6 = sMo.1 4 := by
  obtain ⟨a, b, d1, d2, d3, d4, -⟩ := hD
  rw [d3, d4]
theorem T_told {F : Nat} (hF : 1000 ≤ F) {f : Nat → Int32} {e Lb N : Nat} {sRd sRo sMo : MS} (hE : RZ f e sRd sMo) (hD : RD f e Lb sRd sMo) (h13 : sMo.1 13 = 0) (hN : NM f e sRd (sMo.2.2.1 16)) (hM : N ≤ 9) (r5 : sMo.2.2.1 16 5 = Int32.ofInt (N : Int)) (q5 : sRo.1 5 = Int32.ofInt (N : Int)) : (∃ z : Nat, z < N ∧ f_X7_isToldName F 800 f sRo sRd = some (1, sRd) ∧ f_X7_placeNamed F sRd 800 f sRo = some (Int32.ofInt (z : Int)) ∧ f_X11_placeHere F sMo = some (Int32.ofInt (z : Int), sMo)) ∨ (∃ sRd' sMo', f_X7_isToldName F 800 f sRo sRd = some (0, sRd') ∧ f_X11_placeHere F sMo = some (Int32.ofInt 0, sMo') ∧ BAD sRd' sMo' ∧ FX sMo sMo') := by
  obtain ⟨v, v1, v2, v3⟩ := P_name hF hE hD h13
  have e4 := RD_46 hD
  unfold f_X7_isToldName f_X11_placeHere
  rw [v1, v2, h13, if_pos rfl, bd_some, bd_some]
  cases v with
  | false =>
    refine Or.inr ⟨faS sRd 1 (sRd.1 6), wrS sMo 1 (sMo.1 4), ?_, ?_, ?_, FX_w _ _ _⟩
    · rw [if_pos (show bi false = 0 from rfl), fail_e]; rfl
    · rw [if_neg (c := false = true) (by decide), wrS_13, if_neg (by decide)]; rfl
    · rw [e4]; exact BAD_w _ _ _ _
  | true =>
    obtain ⟨z, z1, z2, z3⟩ := P_find hF hE hD (v3 rfl) hN hM r5 q5
    rw [if_pos (c := true = true) rfl, z2, z3, h13, if_pos rfl, bd_some]
    rcases z1 with rfl | ⟨z1, z4⟩
    · refine Or.inr ⟨faS sRd 2 (sRd.1 6), wrS sMo 2 (sMo.1 4), ?_, ?_, ?_, FX_w _ _ _⟩
      · rw [if_neg (show ¬ bi true = 0 by decide), if_pos (show Int32.ofInt (-1) = -1 from rfl), fail_e]; rfl
      · rw [bd_some, if_neg (by decide), wrong_e _ _ h13, bd_some]
        unfold f_X11_placeHere_40
        rw [wrS_13, if_neg (by decide)]; rfl
      · rw [e4]; exact BAD_w _ _ _ _
    · obtain ⟨z, rfl⟩ := toN z1
      refine Or.inl ⟨z, by omega, ?_, rfl, ?_⟩
      · rw [if_neg (show ¬ bi true = 0 by decide), if_neg (by rw [show (-1 : Int32) = Int32.ofInt (-1) from rfl, n_eq _ _ (by omega) (by omega) (by omega) (by omega)]; omega)]; rfl
      · rw [bd_some, if_pos (by rw [z_0, n_le _ _ (by omega) (by omega) (by omega) (by omega)]; omega)]
        unfold f_X11_placeHere_40
        rw [h13, if_pos rfl]
