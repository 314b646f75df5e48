/-! a line that begins with a word of its own -/
theorem kw_line {F : Nat} {f : Nat → Int32} {e Lb : Nat} {sRd sSp sMo : MS} (G : GD f e Lb sRd sSp sMo) {p : Nat} (hw : f_X11_isWord F sMo p = some (bi true)) {lt : Prop} [Decidable lt] {y : Int32} (hy1 : lt → y = 1) (hy0 : ¬ lt → y = 0) (hcar : ¬ lt → sMo.2.2.1 16 10 = 1) {E : Int32 × MS → Option MS} {L : MS → Option MS} (hL : ∀ s : MS, s.1 13 = Int32.ofInt 1 → L s = some s) {rd : Option (Int32 × MS × MS)} (good : sMo.2.2.1 16 10 = 1 → lt → ∃ M1, f_X11_next F sMo = some M1 ∧ FX sMo M1 ∧ LN f e Lb rd (L M1) sMo) :
    LN3 F f e Lb (if sSp.1 0 = (0 : Int32) then (bd (f_X7_failWith F (6 : Int32) sRd) fun o => gd (bob o.1) <| some (o.1, o.2, sSp)) else (if lt then (bd rd fun o => gd (bob o.1) <| some (o.1, o.2.1, o.2.2)) else (bd (f_X7_failWith F (5 : Int32) sRd) fun o => gd (bob o.1) <| some (o.1, o.2, sSp)))) (bd (f_X11_begins F y p sMo) fun o => if o.1 = (0 : Int32) then E o else (bd (L o.2) fun o' => some o')) sMo := by
  have e0 : sSp.1 0 = sMo.2.2.1 16 0 := G.rp.num 0 (by omega)
  have n1 : ¬ (1 : Int32) = 0 := by decide
  by_cases c0 : sSp.1 0 = 0
  · have r10 : sMo.2.2.1 16 10 = 0 := by
      rcases G.pk.ca with ⟨g, -⟩ | ⟨-, g, -⟩
      · exact g
      · rw [← e0, c0] at g
        have h0 : (0 : Int32).toInt = 0 := rfl
        omega
    have hlt : lt := by
      by_cases c : lt
      · exact c
      · have := hcar c
        rw [r10] at this
        exact absurd this (by decide)
    rw [if_pos c0, hy1 hlt, begins_car hw G.ok r10, bd_some, if_neg n1, hL _ (wrS_13 _ _ _), bd_some]
    exact fail3 G.d 6
  · have r10 : sMo.2.2.1 16 10 = 1 := by
      rcases G.pk.ca with ⟨-, g⟩ | ⟨g, -⟩
      · exact absurd (e0.trans (g 0 (by omega))) c0
      · exact g
    rw [if_neg c0]
    by_cases c : lt
    · obtain ⟨M1, m1, m2, m3⟩ := good r10 c
      rw [if_pos c, hy1 c, begins_yes hw G.ok r10 m1, bd_some, if_neg n1]
      exact LN3_b (Or.inl m3)
    · rw [if_neg c, hy0 c, begins_full hw G.ok, bd_some, if_neg n1, hL _ (wrS_13 _ _ _), bd_some]
      exact fail3 G.d 5
theorem B_placeLine {F : Nat} (s : MS) (h : s.1 13 = Int32.ofInt 1) : f_X11_placeLine F s = some s := by
  unfold f_X11_placeLine
  rw [h, if_neg (by decide)]
theorem B_roadLine {F : Nat} (s : MS) (h : s.1 13 = Int32.ofInt 1) : f_X11_roadLine F s = some s := by
  unfold f_X11_roadLine
  rw [h, if_neg (by decide)]
theorem B_pumpLine {F : Nat} (s : MS) (h : s.1 13 = Int32.ofInt 1) : f_X11_pumpLine F s = some s := by
  unfold f_X11_pumpLine
  rw [h, if_neg (by decide)]
theorem B_receiptLine {F : Nat} (s : MS) (h : s.1 13 = Int32.ofInt 1) : f_X11_receiptLine F s = some s := by
  unfold f_X11_receiptLine
  rw [h, if_neg (by decide)]
theorem B_carLine_20 {F : Nat} (s : MS) (h : s.1 13 = Int32.ofInt 1) : f_X11_carLine_20 F s = some s := by
  unfold f_X11_carLine_20
  rw [h, if_neg (by decide)]
theorem B_wayLine_39 {F : Nat} (s : MS) (h : s.1 13 = Int32.ofInt 1) : f_X11_wayLine_39 F s = some s := by
  unfold f_X11_wayLine_39
  rw [h, if_neg (by decide)]
