/-! a line -/
theorem LN_way {F : Nat} (hF : 1000 ≤ F) {f : Nat → Int32} {e Lb : Nat} {sRd sSp sMo : MS} (G : GD f e Lb sRd sSp sMo) (h10 : sMo.2.2.1 16 10 = 1) : LN3 F f e Lb (f_X7_readWay F 800 f sRd sSp) (f_X11_wayLine_39 F sMo) sMo := by
  obtain ⟨R1, M1, n1, n2, n3, n4, n5⟩ := N_next hF G.z G.d
  have G1 : GD f e Lb R1 sSp M1 := GD_k G ⟨n3, FRd_w n4, n5⟩
  have e16 := n5.2 16 (by decide)
  rw [← e16] at h10
  obtain ⟨N, hN⟩ := toN G1.pk.nu.1.1
  have w : WS f e Lb R1 sSp M1 sMo N 0 (M1.2.2.1 16) sSp := ⟨CG_g G1, G1.no, G1.f0, G1.f1, G1.nm, ⟨fun _ _ => rfl, rfl, fun _ _ _ => rfl, fun j hj => by omega, fun j hj => by omega, fun h => by omega, fun j hj => by omega, fun j hj => by omega⟩, FX_m n5⟩
  have := way_go hF G1.pk G1.rp hN h10 9 0 F F sRd sSp R1 M1 (by omega) (by omega) (by omega) n1 w
  unfold f_X7_readWay f_X11_wayLine_39
  rw [G.ok, if_pos rfl, n2, bd_some]
  exact this
theorem LN3_b {F : Nat} {f : Nat → Int32} {e Lb : Nat} {oc : Option (Int32 × MS × MS)} {om : Option MS} {sMo : MS} (h : LN3 F f e Lb oc om sMo) : LN3 F f e Lb (bd oc fun o => gd (bob o.1) <| some (o.1, o.2.1, o.2.2)) (bd om fun o => some o) sMo := by
  rcases h with (⟨R, s, M, h1, h2, h3⟩ | ⟨R, s, M, h1, h2, h3, M', h4, h5⟩) | ⟨R, s, M, h1, h2, h3, h4, h5, M', h6, h7⟩
  · exact Or.inl (Or.inl ⟨R, s, M, by rw [h1]; rfl, by rw [h2]; rfl, h3⟩)
  · exact Or.inl (Or.inr ⟨R, s, M, by rw [h1]; rfl, h2, h3, M', by rw [h4]; rfl, h5⟩)
  · exact Or.inr ⟨R, s, M, by rw [h1]; rfl, h2, h3, h4, h5, M', by rw [h6]; rfl, h7⟩
theorem fail3 {F : Nat} {f : Nat → Int32} {e Lb : Nat} {R s M : MS} (hD : RD f e Lb R M) (c : Int32) : LN3 F f e Lb (bd (f_X7_failWith F c R) fun o => gd (bob o.1) <| some (o.1, o.2, s)) (some (wrS M c (M.1 4))) M := by
  refine Or.inl (Or.inr ⟨faS R c (R.1 6), s, wrS M c (M.1 4), by rw [fail_e]; rfl, ?_, FX_w _ _ _, FT_r _⟩)
  rw [RD_46 hD]; exact BAD_w _ _ _ _
theorem begins_no {F : Nat} {M : MS} {y : Int32} {p : Nat} (h : f_X11_isWord F M p = some (bi false)) : f_X11_begins F y p M = some (0, M) := by
  unfold f_X11_begins
  rw [h, bd_some, if_pos (show bi false = 0 from rfl)]
theorem begins_full {F : Nat} {M : MS} {p : Nat} (h : f_X11_isWord F M p = some (bi true)) (h13 : M.1 13 = 0) : f_X11_begins F 0 p M = some (1, wrS M 5 (M.1 4)) := by
  unfold f_X11_begins f_X11_begins_23 f_X11_begins_43
  rw [h, bd_some, if_neg (show ¬ bi true = 0 by decide), if_pos rfl, wrong_e _ _ h13, bd_some, gd_t (by decide), lz_t]
  have hb := wrS_13 M 5 (M.1 4)
  have n1 : ¬ Int32.ofInt 1 = 0 := by decide
  by_cases c : (wrS M 5 (M.1 4)).2.2.1 16 ((10 : Int32).toNatClampNeg) = 0
  · rw [if_pos c, B_wrong hb, bd_some, wrS_13, if_neg n1]
  · rw [if_neg c, wrS_13, if_neg n1]
theorem begins_car {F : Nat} {M : MS} {p : Nat} (h : f_X11_isWord F M p = some (bi true)) (h13 : M.1 13 = 0) (h10 : M.2.2.1 16 10 = 0) : f_X11_begins F 1 p M = some (1, wrS M 6 (M.1 4)) := by
  unfold f_X11_begins f_X11_begins_23 f_X11_begins_43
  have h10' : M.2.2.1 16 ((10 : Int32).toNatClampNeg) = 0 := h10
  rw [h, bd_some, if_neg (show ¬ bi true = 0 by decide), if_neg (by decide), gd_t (by decide), lz_t, h10', if_pos rfl, wrong_e _ _ h13, bd_some, wrS_13, if_neg (by decide)]
theorem begins_yes {F : Nat} {M M1 : MS} {p : Nat} (h : f_X11_isWord F M p = some (bi true)) (h13 : M.1 13 = 0) (h10 : M.2.2.1 16 10 = 1) (hn : f_X11_next F M = some M1) : f_X11_begins F 1 p M = some (1, M1) := by
  unfold f_X11_begins f_X11_begins_23 f_X11_begins_43
  have h10' : M.2.2.1 16 ((10 : Int32).toNatClampNeg) = 1 := h10
  rw [h, bd_some, if_neg (show ¬ bi true = 0 by decide), if_neg (by decide), gd_t (by decide), lz_t, h10', if_neg (by decide), h13, if_pos rfl, hn]
  rfl
