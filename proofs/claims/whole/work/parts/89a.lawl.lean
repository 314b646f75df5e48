theorem hd_gt {i L : Nat} (hi : i ≤ L) (hL : L ≤ 3072) : (Int32.ofNat L - Int32.ofInt 6 < Int32.ofInt (i : Int)) ↔ L < i + 6 := by
  rw [n_nat, n_sub, n_lt _ _ (by omega) (by omega) (by omega) (by omega)]
  omega
theorem hd_in {i L : Nat} (hi : i + 6 ≤ L) (hL : L ≤ 3072) : vp_in (Int32.ofInt (i : Int)) L ∧ (Int32.ofInt (i : Int)).toNatClampNeg = i := by
  refine ⟨vpb_in (vpb_iff.mpr ?_), ?_⟩
  · rw [n_toI _ (by omega) (by omega)]
    omega
  · rw [n_ix _ (by omega) (by omega), tn]
set_option maxHeartbeats 4000000 in
set_option maxRecDepth 100000 in
theorem law_inc {p : Program} {l : Launch} {e : Env} {s : State} {m : MethodId} {below : List Frame} {meth : Method} {c : Code} {b L : Nat} {xs : Nat → Int32} {D : va_G} {K : Nat → ClassId} {adK adV : Nat → Nat} {tF sa : Nat} (X : LCx p l s m c b L xs D K adK adV tF sa) {i : Nat} (nx : LGo p l e s m below meth c b D K 23 (i + 6) 0) : LGo p l e s m below meth c b D K 2154 i 6 := by
  obtain ⟨hx, hb, hml, hown, hts, hX, hbl, hK, hZ, hZl, hlf, hL⟩ := X
  intro a S H locs ls cells slots hc hs hE hP hD hS hl
  have e6 : Int32.ofInt (i : Int) + Int32.ofInt 6 = Int32.ofInt ((i + 6 : Nat) : Int) := by
    rw [n_add]
    rfl
  refine lv_iinc (k := 4) hx hb dL_law_2154 hl rfl e6 (by decide) rfl (fun ls hl => ?_)
  refine lv_goto (tgt := 23) hx hb dL_law_2157 (by decide) ?_
  exact nx a S H locs ls cells slots (by omega) (by omega) hE hP hD hS (lv_sub hl [1, 2, 3, 4, 0] rfl)
set_option maxHeartbeats 4000000 in
set_option maxRecDepth 100000 in
theorem law_head {p : Program} {l : Launch} {e : Env} {s : State} {m : MethodId} {below : List Frame} {meth : Method} {c : Code} {b L : Nat} {xs : Nat → Int32} {D : va_G} {K : Nat → ClassId} {adK adV : Nat → Nat} {tF sa : Nat} (X : LCx p l s m c b L xs D K adK adV tF sa) (hr : meth.sig.returnType = ret) (hlocks : meth.locks = false) {i : Nat} (hi : i ≤ L) (nx : i + 6 ≤ L → LGo p l e s m below meth c b D K 2154 i 6) (go : i + 6 ≤ L → ∀ n, n < 56 → LGo p l e s m below meth c b D K (tgL.getD n 0) i 0) : LGo p l e s m below meth c b D K 23 i 0 := by
  obtain ⟨hx, hb, hml, hown, hts, hX, hbl, hK, hZ, hZl, hlf, hL⟩ := X
  intro a S H locs ls cells slots hc hs hE hP hD hS hl
  have hA : ∀ q : Nat, s.heap.size ≤ q → (fun q : Nat => s.heap.size ≤ q) q := fun _ h => h
  have hbA : ¬ (fun q : Nat => s.heap.size ≤ q) b := Nat.not_le.mpr hbl
  refine lv_iload hx hb dL_law_23 (lv_at hl 4 rfl) ?_
  refine lv_aload_n hx hb dL_law_25 rfl (lv_at hl 0 rfl) ?_
  refine va_slen hx hb hX hbl hbA hS dL_law_26 ?_
  refine lv_bipush (v := Int32.ofInt 6) hx hb dL_law_27 (by decide) ?_
  refine lv_isub hx hb dL_law_29 ?_
  refine lv_icmp_gt (tgt := 2160) hx hb dL_law_30 (by decide) (fun c1 => ?_) (fun c1 => ?_)
  · refine lv_iconst (v := 1) hx hb dL_law_2160 (by decide) ?_
    refine va_forget hS.2.2 ?_
    have e1 : cells ≤ 601024 := by omega
    have e2 : slots ≤ 7293034 := by omega
    refine W.widen e1 e2 ?_
    exact lw_ret hx hb hr hlocks dL_law_2161
  · have hi6 : i + 6 ≤ L := by
      rw [hd_gt hi hL] at c1
      omega
    obtain ⟨g1, g2⟩ := hd_in hi6 hL
    refine lv_aload_n hx hb dL_law_33 rfl (lv_at hl 0 rfl) ?_
    refine lv_iload hx hb dL_law_34 (lv_at hl 4 rfl) ?_
    refine va_sld hx hb hX hbl hbA hS g1 dL_law_36 ?_
    refine lv_bipush (v := (63 : Int32)) hx hb dL_law_37 (by decide) ?_
    refine lv_iand hx hb dL_law_39 ?_
    generalize xs (Int32.ofInt (i : Int)).toNatClampNeg &&& 63 = x
    by_cases hq : x.toInt < 0 ∨ 55 < x.toInt
    · refine lv_tableOut (tgt := 2154) hx hb dL_law_40 hq (by decide) ?_
      exact nx hi6 a S H locs ls cells slots (by omega) (by omega) hE hP hD hS hl
    · have h1 : ¬ x.toInt < 0 := fun h => hq (Or.inl h)
      have h2 : ¬ 55 < x.toInt := fun h => hq (Or.inr h)
      have h3 : (x.toInt - 0).toNat < 56 := by omega
      refine lv_tableIn (tgt := tgL.getD (x.toInt - 0).toNat 0) hx hb dL_law_40 h1 h2 (sw_ok _ h3) (by omega) ?_
      exact go hi6 _ h3 a S H locs ls cells slots hc hs hE hP hD hS hl
set_option maxHeartbeats 4000000 in
set_option maxRecDepth 100000 in
theorem law_case {p : Program} {l : Launch} {e : Env} {s : State} {m : MethodId} {below : List Frame} {meth : Method} {c : Code} {b L : Nat} {xs : Nat → Int32} {D : va_G} {K : Nat → ClassId} {adK adV : Nat → Nat} {tF sa : Nat} (X : LCx p l s m c b L xs D K adK adV tF sa) {i : Nat} (h6 : i + 6 ≤ L) (nx : LGo p l e s m below meth c b D K 2154 i 6) : ∀ n, n < 56 → LGo p l e s m below meth c b D K (tgL.getD n 0) i 0
  | 0, _ => law_feed X h6 nx
  | 1, _ => law_road X h6 nx
  | 2, _ => law_fault X h6 nx
  | 3, _ => law_where X h6 nx
  | 4, _ => law_takes X h6 nx
  | 5, _ => law_pump X h6 nx
  | 6, _ => law_station X h6 nx
  | 7, _ => law_legs X h6 nx
  | 8, _ => law_lasts X h6 nx
  | 9, _ => law_plan X h6 nx
  | 10, _ => law_judge X h6 nx
  | 11, _ => law_cost X h6 nx
  | 12, _ => law_cheapest X h6 nx
  | 13, _ => law_how X h6 nx
  | 14, _ => law_fewest X h6 nx
  | 15, _ => law_time X h6 nx
  | 16, _ => law_without X h6 nx
  | 17, _ => law_gap X h6 nx
  | 18, _ => law_within X h6 nx
  | 19, _ => law_rest X h6 nx
  | 20, _ => law_need X h6 nx
  | 21, _ => law_buys X h6 nx
  | 22, _ => law_byRule X h6 nx
  | 23, _ => law_stuckAt X h6 nx
  | 24, _ => law_odds X h6 nx
  | 25, _ => law_mean X h6 nx
  | 26, _ => law_bestRule X h6 nx
  | 27, _ => law_bestMean X h6 nx
  | 28, _ => law_buy X h6 nx
  | 29, _ => law_sure X h6 nx
  | 30, _ => law_net X h6 nx
  | 31, _ => law_most X h6 nx
  | 32, _ => law_near X h6 nx
  | 33, _ => law_worth X h6 nx
  | 34, _ => law_far X h6 nx
  | 35, _ => law_loads X h6 nx
  | 36, _ => law_depot X h6 nx
  | 37, _ => law_convoy X h6 nx
  | 38, _ => law_fits X h6 nx
  | 39, _ => law_fit X h6 nx
  | 40, _ => law_went X h6 nx
  | 41, _ => law_needle X h6 nx
  | 42, _ => law_run X h6 nx
  | 43, _ => law_through X h6 nx
  | 44, _ => law_beats X h6 nx
  | 45, _ => law_car X h6 nx
  | 46, _ => law_fill X h6 nx
  | 47, _ => law_drive X h6 nx
  | 48, _ => law_waits X h6 nx
  | 49, _ => law_seed X h6 nx
  | 50, _ => law_undo X h6 nx
  | 51, _ => law_image X h6 nx
  | 52, _ => law_back X h6 nx
  | 53, _ => law_led X h6 nx
  | 54, _ => law_size X h6 nx
  | 55, _ => law_trouble X h6 nx
  | n + 56, h => absurd h (by omega)
theorem law_loop {p : Program} {l : Launch} {e : Env} {s : State} {m : MethodId} {below : List Frame} {meth : Method} {c : Code} {b L : Nat} {xs : Nat → Int32} {D : va_G} {K : Nat → ClassId} {adK adV : Nat → Nat} {tF sa : Nat} (X : LCx p l s m c b L xs D K adK adV tF sa) (hr : meth.sig.returnType = ret) (hlocks : meth.locks = false) : ∀ n i, L < i + n → i ≤ L → LGo p l e s m below meth c b D K 23 i 0 := by
  intro n
  induction n with
  | zero =>
    intro i h1 h2
    omega
  | succ n ih =>
    intro i h1 h2
    refine law_head X hr hlocks h2 (fun h6 => law_inc X (ih (i + 6) (by omega) (by omega))) (fun h6 => law_case X h6 (law_inc X (ih (i + 6) (by omega) (by omega))))
