theorem receipt_e {F : Nat} {sRo : MS} {r : Nat → Int32} (hR : RR sRo r) (h : ROK r) {L : Int64} {P : Nat → Bool} (hL : lvl r L P) {g : Nat} (hg : g < rR r) : ∃ L', f_X8_beforeReceipt F sRo (Int32.ofInt (g : Int)) L = some L' ∧ lvl r L' (fun x => byP (nT r) (rd r (11 + 3 * pl r g)) (pe r g) P x || byP (nT r) (rd r (12 + 3 * pl r g)) (pe r g) P x) := by
  obtain ⟨t0, t1, t2, t3, t4, t5, t8, t9⟩ := ROKb h
  have hR5 : rR r ≤ 5 ∧ ((rR r : Nat) : Int) = rd r 9 := by unfold rR; omega
  obtain ⟨p1, p2, p3, p4, p5⟩ := pl_b h hg
  have pb := pumpB h p1
  obtain ⟨a17, a18⟩ := hR.2.2.2.2.2.2.2 g (by show (g : Int) < rd r 9; omega)
  rw [p2] at a17
  rw [p5] at a18
  obtain ⟨a1, a2, -⟩ := hR.2.2.2.1 (pl r g) p1
  rw [rd_e r] at a1 a2
  obtain ⟨L1, e1, e2⟩ := before_e (F := F) h hL pb.1.1 pb.1.2 p3 p4
  obtain ⟨L2, e3, e4⟩ := before_e (F := F) h hL pb.2.1.1 pb.2.1.2 p3 p4
  refine ⟨L1 ||| L2, ?_, ?_⟩
  · unfold f_X8_beforeReceipt
    simp (disch := omega) only [z_0, z_1, z_2, z_3, z_4, z_5, z_6, z_7, z_8, z_9, z_10, z_11, z_12, z_14, z_18, z_20, z_22, z_24, z_32, z_38, z_40, z_41, z_44, z_48, z_49, z_57, z_59, z_60, z_63, z_65, z_74, z_75, z_81, z_97, z_99, z_104, z_115, z_119, z_122, z_200, z_209, z_210, z_219, z_228, z_255, z_300, z_369, z_999, z_65537, z_268435456, z_1000000000, n_nat, n_add, n_sub, n_mul, n_neg, n_lt, n_le, n_eq, n_ix, n_gd, n_nz, lz_t, bd_some, tn, Int.reduceToNat, tn_1, if_pos, if_neg, if_true, if_false, a17, a18, a1, a2, e1, e3]
  · intro x hx
    rw [b64_or, e2 x hx, e4 x hx]
    cases decide (x ≤ nT r) <;> rfl
/-- a row of places, none twice -/
def dis (w : Nat → Nat) (k : Nat) : Prop := ∀ i j, i < k → j < k → w i = w j → i = j
theorem Fi_r {r : Nat → Int32} {w : Nat → Nat} {k i g : Nat} (hg : g < rR r) (hp : pl r g = w i) (x : Nat) : Fi r w k i g x = (byP (nT r) (rd r (11 + 3 * pl r g)) (pe r g) (Fi r w k i (g + 1)) x || byP (nT r) (rd r (12 + 3 * pl r g)) (pe r g) (Fi r w k i (g + 1)) x) := by
  unfold Fi
  rw [show k - 1 - i + (rR r - g) + 1 = (k - 1 - i + (rR r - (g + 1)) + 1) + 1 by omega, fit_s, if_pos ⟨hg, hp⟩, hp]
theorem Fi_g {r : Nat → Int32} {w : Nat → Nat} {k i g : Nat} (hi : i + 1 < k) (hn : ¬ (g < rR r ∧ pl r g = w i)) (x : Nat) : Fi r w k i g x = (decide (tk r (w i) (w (i + 1)) ≤ (x : Int)) && Fi r w k (i + 1) g (x - (tk r (w i) (w (i + 1))).toNat)) := by
  unfold Fi
  rw [show k - 1 - i + (rR r - g) + 1 = (k - 1 - (i + 1) + (rR r - g) + 1) + 1 by omega, fit_s, if_neg hn, if_neg (by omega)]
theorem Fi_e {r : Nat → Int32} {w : Nat → Nat} {k g : Nat} (hk : 1 ≤ k) (hn : ¬ (g < rR r ∧ pl r g = w (k - 1))) (x : Nat) : Fi r w k (k - 1) g x = decide (g = rR r) := by
  unfold Fi
  rw [fit_s, if_neg hn, if_pos (by omega)]
theorem byP_f {T : Nat} {a b : Int} {G : Nat → Bool} (h : ∀ x, G x = false) (x : Nat) : byP T a b G x = false := by
  unfold byP
  cases bq a b with
  | none => rfl
  | some n => show (decide _ && G _) = false; rw [h, Bool.and_false]
/-- a receipt that doesn't match here stops all that come before it -/
theorem Fi_st {r : Nat → Int32} {w : Nat → Nat} {k i : Nat} (hi : i < k) {ρ : Nat} (hρ : ρ < rR r) (hp : pl r ρ ≠ w i) (nx : i + 1 < k → ∀ g, g ≤ ρ → ∀ x, Fi r w k (i + 1) g x = false) : ∀ (d g : Nat), g + d = ρ → ∀ x, Fi r w k i g x = false := by
  have mv : ∀ g, g ≤ ρ → ¬ (g < rR r ∧ pl r g = w i) → ∀ x, Fi r w k i g x = false := by
    intro g hg hn x
    by_cases c : i + 1 < k
    · rw [Fi_g c hn, nx c g hg, Bool.and_false]
    · have : i = k - 1 := by omega
      subst this
      rw [Fi_e (by omega) hn]
      exact decide_eq_false (by omega)
  intro d
  induction d with
  | zero =>
    intro g hg x
    have : g = ρ := hg
    subst this
    exact mv g (Nat.le_refl _) (fun z => hp z.2) x
  | succ d ih =>
    intro g hg x
    by_cases c : g < rR r ∧ pl r g = w i
    · rw [Fi_r c.1 c.2, byP_f (ih (g + 1) (by omega)), byP_f (ih (g + 1) (by omega))]
      rfl
    · exact mv g (by omega) c x
/-- the state of the class's reckoning at place i, with g receipts still before -/
def FS (r : Nat → Int32) (w : Nat → Nat) (k i g : Nat) (L : Int64) : Prop := lvl r L (Fi r w k i g) ∧ (g < rR r → ∃ a, i ≤ a ∧ a < k ∧ pl r g = w a) ∧ g ≤ rR r ∧ (i + 1 < k → 0 < g → ∀ j, i + 1 ≤ j → j < k → ∀ g', g' + 1 ≤ g → ∀ x, Fi r w k j g' x = false)
theorem fb_go {F : Nat} (hF : 100 ≤ F) {sRo sRe : MS} {r : Nat → Int32} (hR : RR sRo r) (h : ROK r) {w : Nat → Nat} {k : Nat} (hk : k ≤ 9) (hk1 : 1 ≤ k) (hw : rowW (sRe.2.2.1 7) w k) (hd : dis w k) (p2 : Int32) {A : Int64} (hA : lvl r A (fun _ => true)) : ∀ (m i g n : Nat) (L : Int64), m = i + g → i < k → i < n → FS r w k i g L → (∀ nn : Nat, g < nn → True) →
    ∀ nn, g < nn → ∃ L', f_X8_fittingBeginnings_32 F sRe sRo p2 (f_X8_fittingBeginnings_27 F sRe sRo p2 n) nn A L (Int32.ofInt ((g : Int) - 1)) (Int32.ofInt (i : Int)) = some L' ∧ lvl r L' (Fi r w k 0 0) := by
  obtain ⟨c1, c2, c3, c4, c5⟩ := nTP h
  obtain ⟨t0, t1, t2, t3, t4, t5, t8, t9⟩ := ROKb h
  have hR5 : rR r ≤ 5 ∧ ((rR r : Nat) : Int) = rd r 9 := by unfold rR; omega
  intro m
  induction m with
  | zero =>
    intro i g n L hm hi hn H _ nn hnn
    have i0 : i = 0 := by omega
    have g0 : g = 0 := by omega
    subst i0
    subst g0
    cases nn with
    | zero => omega
    | succ nn =>
      cases n with
      | zero => omega
      | succ n =>
        refine ⟨L, ?_, H.1⟩
        rw [f_X8_fittingBeginnings_32]
        simp (disch := omega) only [z_0, z_1, z_2, z_3, z_4, z_5, z_6, z_7, z_8, z_9, z_10, z_11, z_12, z_14, z_18, z_20, z_22, z_24, z_32, z_38, z_40, z_41, z_44, z_48, z_49, z_57, z_59, z_60, z_63, z_65, z_74, z_75, z_81, z_97, z_99, z_104, z_115, z_119, z_122, z_200, z_209, z_210, z_219, z_228, z_255, z_300, z_369, z_999, z_65537, z_268435456, z_1000000000, n_nat, n_add, n_sub, n_mul, n_neg, n_lt, n_le, n_eq, n_ix, n_gd, n_nz, lz_t, bd_some, tn, Int.reduceToNat, tn_1, if_pos, if_neg, if_true, if_false, f_X8_fittingBeginnings_70, f_X8_fittingBeginnings_102]
        rw [f_X8_fittingBeginnings_27]
        simp (disch := omega) only [z_0, z_1, z_2, z_3, z_4, z_5, z_6, z_7, z_8, z_9, z_10, z_11, z_12, z_14, z_18, z_20, z_22, z_24, z_32, z_38, z_40, z_41, z_44, z_48, z_49, z_57, z_59, z_60, z_63, z_65, z_74, z_75, z_81, z_97, z_99, z_104, z_115, z_119, z_122, z_200, z_209, z_210, z_219, z_228, z_255, z_300, z_369, z_999, z_65537, z_268435456, z_1000000000, n_nat, n_add, n_sub, n_mul, n_neg, n_lt, n_le, n_eq, n_ix, n_gd, n_nz, lz_t, bd_some, tn, Int.reduceToNat, tn_1, if_pos, if_neg, if_true, if_false, f_X8_fittingBeginnings_108]
  | succ m ih =>
    intro i g n L hm hi hn H _ nn hnn
    obtain ⟨H1, H2, H3, H4⟩ := H
    obtain ⟨wi, w9⟩ := hw i hi
    -- going on to the place before
    have e70 : (0 < g → pl r (g - 1) ≠ w i) → ∃ L', f_X8_fittingBeginnings_70 F sRe sRo p2 (f_X8_fittingBeginnings_27 F sRe sRo p2 n) A L (Int32.ofInt ((g : Int) - 1)) (Int32.ofInt (i : Int)) = some L' ∧ lvl r L' (Fi r w k 0 0) := by
      intro hno
      have nf : 0 < g → ∀ j, i ≤ j → j < k → ∀ g', g' + 1 ≤ g → ∀ x, Fi r w k j g' x = false := by
        intro hg j hj hjk g' hg' x
        by_cases e : j = i
        · subst e
          exact Fi_st hi (ρ := g - 1) (by omega) (hno hg) (fun c g'' hg'' y => H4 c hg (j + 1) (by omega) c g'' (by omega) y) (g - 1 - g') g' (by omega) x
        · exact H4 (by omega) hg j (by omega) hjk g' hg' x
      unfold f_X8_fittingBeginnings_70 f_X8_fittingBeginnings_102
      cases n with
      | zero => omega
      | succ n =>
        by_cases ci : i = 0
        · subst ci
          by_cases cg : g = 0
          · exfalso
            omega
          · refine ⟨0, ?_, ?_⟩
            · simp (disch := omega) only [z_0, z_1, z_2, z_3, z_4, z_5, z_6, z_7, z_8, z_9, z_10, z_11, z_12, z_14, z_18, z_20, z_22, z_24, z_32, z_38, z_40, z_41, z_44, z_48, z_49, z_57, z_59, z_60, z_63, z_65, z_74, z_75, z_81, z_97, z_99, z_104, z_115, z_119, z_122, z_200, z_209, z_210, z_219, z_228, z_255, z_300, z_369, z_999, z_65537, z_268435456, z_1000000000, n_nat, n_add, n_sub, n_mul, n_neg, n_lt, n_le, n_eq, n_ix, n_gd, n_nz, lz_t, bd_some, tn, Int.reduceToNat, tn_1, if_pos, if_neg, if_true, if_false]
              rw [f_X8_fittingBeginnings_27]
              simp (disch := omega) only [z_0, z_1, z_2, z_3, z_4, z_5, z_6, z_7, z_8, z_9, z_10, z_11, z_12, z_14, z_18, z_20, z_22, z_24, z_32, z_38, z_40, z_41, z_44, z_48, z_49, z_57, z_59, z_60, z_63, z_65, z_74, z_75, z_81, z_97, z_99, z_104, z_115, z_119, z_122, z_200, z_209, z_210, z_219, z_228, z_255, z_300, z_369, z_999, z_65537, z_268435456, z_1000000000, n_nat, n_add, n_sub, n_mul, n_neg, n_lt, n_le, n_eq, n_ix, n_gd, n_nz, lz_t, bd_some, tn, Int.reduceToNat, tn_1, if_pos, if_neg, if_true, if_false, f_X8_fittingBeginnings_108, y_0]
            · intro x hx
              rw [b64_0, nf (by omega) 0 (by omega) hi 0 (by omega), Bool.and_false]
        · obtain ⟨wj, w9'⟩ := hw (i - 1) (by omega)
          have tb := tk_b h w9' w9
          have ei : (i : Int) - 1 = ((i - 1 : Nat) : Int) := by omega
          have ei' : (i : Int) + -1 = ((i - 1 : Nat) : Int) := by omega
          have e1 : i - 1 + 1 = i := by omega
          have p9 : f_X9_pintsOf F sRo (Int32.ofInt (w (i - 1) : Int)) (Int32.ofInt (w i : Int)) = some (Int32.ofInt (tk r (w (i - 1)) (w i))) := B9_pints hR w9' w9
          obtain ⟨t, hte⟩ := toN tb.1
          have notg : ¬ (g < rR r ∧ pl r g = w (i - 1)) := by
            rintro ⟨q1, q2⟩
            obtain ⟨a, a1, a2, a3⟩ := H2 q1
            have := hd (i - 1) a (by omega) a2 (by omega)
            omega
          have nl : lvl r ((L <<< ((Int32.ofInt (t : Int)).toInt64 &&& 63)) &&& A) (Fi r w k (i - 1) g) := by
            intro x hx
            rw [b64_and, b64_shl L (by omega), hA x hx, Fi_g (by omega) notg, e1, hte, Bool.and_true]
            show _ = (decide (x ≤ nT r) && (decide ((t : Int) ≤ (x : Int)) && Fi r w k i g (x - t)))
            rw [decide_eq_true hx, Bool.true_and]
            by_cases ct : x < t
            · rw [decide_eq_true ct, decide_eq_false (show ¬ (t : Int) ≤ (x : Int) by omega)]
              simp
            · rw [decide_eq_false ct, decide_eq_true (show (t : Int) ≤ (x : Int) by omega), H1 (x - t) (by omega)]
              by_cases cT : x ≤ nT r
              · rw [decide_eq_true cT, decide_eq_true (show x - t ≤ nT r by omega)]
                simp
              · rw [decide_eq_false cT]
                simp
          obtain ⟨L', z1, z2⟩ := ih (i - 1) g n _ (by omega) (by omega) (by omega) ⟨nl, fun q => by
            obtain ⟨a, a1, a2, a3⟩ := H2 q
            exact ⟨a, by omega, a2, a3⟩, H3, fun c hg j hj hjk g' hg' x => nf hg j (by omega) hjk g' hg' x⟩ (fun _ _ => trivial) F (by omega)
          refine ⟨L', ?_, z2⟩
          simp (disch := omega) only [z_0, z_1, z_2, z_3, z_4, z_5, z_6, z_7, z_8, z_9, z_10, z_11, z_12, z_14, z_18, z_20, z_22, z_24, z_32, z_38, z_40, z_41, z_44, z_48, z_49, z_57, z_59, z_60, z_63, z_65, z_74, z_75, z_81, z_97, z_99, z_104, z_115, z_119, z_122, z_200, z_209, z_210, z_219, z_228, z_255, z_300, z_369, z_999, z_65537, z_268435456, z_1000000000, n_nat, n_add, n_sub, n_mul, n_neg, n_lt, n_le, n_eq, n_ix, n_gd, n_nz, lz_t, bd_some, tn, Int.reduceToNat, tn_1, if_pos, if_neg, if_true, if_false, ei, wj, wi, p9, hte, ei']
          rw [f_X8_fittingBeginnings_27]
          simp (disch := omega) only [z_0, z_1, z_2, z_3, z_4, z_5, z_6, z_7, z_8, z_9, z_10, z_11, z_12, z_14, z_18, z_20, z_22, z_24, z_32, z_38, z_40, z_41, z_44, z_48, z_49, z_57, z_59, z_60, z_63, z_65, z_74, z_75, z_81, z_97, z_99, z_104, z_115, z_119, z_122, z_200, z_209, z_210, z_219, z_228, z_255, z_300, z_369, z_999, z_65537, z_268435456, z_1000000000, n_nat, n_add, n_sub, n_mul, n_neg, n_lt, n_le, n_eq, n_ix, n_gd, n_nz, lz_t, bd_some, tn, Int.reduceToNat, tn_1, if_pos, if_neg, if_true, if_false]
          exact z1
    cases nn with
    | zero => omega
    | succ nn =>
      rw [f_X8_fittingBeginnings_32]
      by_cases cg : g = 0
      · obtain ⟨L', z1, z2⟩ := e70 (fun q => by omega)
        refine ⟨L', ?_, z2⟩
        simp (disch := omega) only [z_0, z_1, z_2, z_3, z_4, z_5, z_6, z_7, z_8, z_9, z_10, z_11, z_12, z_14, z_18, z_20, z_22, z_24, z_32, z_38, z_40, z_41, z_44, z_48, z_49, z_57, z_59, z_60, z_63, z_65, z_74, z_75, z_81, z_97, z_99, z_104, z_115, z_119, z_122, z_200, z_209, z_210, z_219, z_228, z_255, z_300, z_369, z_999, z_65537, z_268435456, z_1000000000, n_nat, n_add, n_sub, n_mul, n_neg, n_lt, n_le, n_eq, n_ix, n_gd, n_nz, lz_t, bd_some, tn, Int.reduceToNat, tn_1, if_pos, if_neg, if_true, if_false]
        exact z1
      · have eg : (g : Int) - 1 = ((g - 1 : Nat) : Int) := by omega
        obtain ⟨p1, p2', p3, p4, p5⟩ := pl_b h (show g - 1 < rR r by omega)
        obtain ⟨a17, a18⟩ := hR.2.2.2.2.2.2.2 (g - 1) (by show ((g - 1 : Nat) : Int) < rd r 9; omega)
        rw [p2'] at a17
        by_cases cp : pl r (g - 1) = w i
        · obtain ⟨L1, x1, x2⟩ := receipt_e (F := F) hR h H1 (g := g - 1) (by omega)
          have e1 : g - 1 + 1 = g := by omega
          have nl : lvl r L1 (Fi r w k i (g - 1)) := by
            intro x hx
            rw [x2 x hx, Fi_r (by omega) cp, e1]
          obtain ⟨L', z1, z2⟩ := ih i (g - 1) n L1 (by omega) hi hn ⟨nl, fun _ => ⟨i, by omega, hi, cp⟩, by omega, fun c hg j hj hjk g' hg' x => H4 c (by omega) j hj hjk g' (by omega) x⟩ (fun _ _ => trivial) nn (by omega)
          refine ⟨L', ?_, z2⟩
          have eg2 : ((g - 1 : Nat) : Int) + -1 = ((g - 1 : Nat) : Int) - 1 := by omega
          rw [eg]
          simp (disch := omega) only [z_0, z_1, z_2, z_3, z_4, z_5, z_6, z_7, z_8, z_9, z_10, z_11, z_12, z_14, z_18, z_20, z_22, z_24, z_32, z_38, z_40, z_41, z_44, z_48, z_49, z_57, z_59, z_60, z_63, z_65, z_74, z_75, z_81, z_97, z_99, z_104, z_115, z_119, z_122, z_200, z_209, z_210, z_219, z_228, z_255, z_300, z_369, z_999, z_65537, z_268435456, z_1000000000, n_nat, n_add, n_sub, n_mul, n_neg, n_lt, n_le, n_eq, n_ix, n_gd, n_nz, lz_t, bd_some, tn, Int.reduceToNat, tn_1, if_pos, if_neg, if_true, if_false, a17, wi, x1, eg2]
          exact z1
        · obtain ⟨L', z1, z2⟩ := e70 (fun _ => cp)
          refine ⟨L', ?_, z2⟩
          rw [eg] at z1 ⊢
          simp (disch := omega) only [z_0, z_1, z_2, z_3, z_4, z_5, z_6, z_7, z_8, z_9, z_10, z_11, z_12, z_14, z_18, z_20, z_22, z_24, z_32, z_38, z_40, z_41, z_44, z_48, z_49, z_57, z_59, z_60, z_63, z_65, z_74, z_75, z_81, z_97, z_99, z_104, z_115, z_119, z_122, z_200, z_209, z_210, z_219, z_228, z_255, z_300, z_369, z_999, z_65537, z_268435456, z_1000000000, n_nat, n_add, n_sub, n_mul, n_neg, n_lt, n_le, n_eq, n_ix, n_gd, n_nz, lz_t, bd_some, tn, Int.reduceToNat, tn_1, if_pos, if_neg, if_true, if_false, a17, wi]
          exact z1
theorem fb_e {F : Nat} (hF : 100 ≤ F) {sRo sRe : MS} {r : Nat → Int32} (hR : RR sRo r) (h : ROK r) {w : Nat → Nat} {k : Nat} (hk : k ≤ 9) (hk1 : 1 ≤ k) (hw : rowW (sRe.2.2.1 7) w k) (hd : dis w k) : ∃ L, f_X8_fittingBeginnings F sRe sRo (Int32.ofInt (k : Int)) = some L ∧ lvl r L (Fi r w k 0 0) := by
  obtain ⟨q0, q1, q2, q3, q4, q5, q8, q9⟩ := RRb hR
  obtain ⟨c1, c2, c3, c4, c5⟩ := nTP h
  obtain ⟨t0, t1, t2, t3, t4, t5, t8, t9⟩ := ROKb h
  have hR5 : rR r ≤ 5 ∧ ((rR r : Nat) : Int) = rd r 9 := by unfold rR; omega
  have hA : lvl r (((1 : Int64) <<< ((Int32.ofInt (((nT r : Nat) : Int) + 1)).toInt64 &&& 63)) - 1) (fun _ => true) := by
    intro x hx
    rw [allM (nT r) (by omega) x hx, Bool.and_true]
  obtain ⟨F', rfl⟩ : ∃ F', F = F' + 1 := ⟨F - 1, by omega⟩
  obtain ⟨L, z1, z2⟩ := fb_go (F := F' + 1) hF hR h hk hk1 hw hd (Int32.ofInt (k : Int)) hA (k - 1 + rR r) (k - 1) (rR r) F' _ rfl (by omega) (by omega) ⟨by
    intro x hx
    rw [hA x hx, Fi_e hk1 (fun z => by omega), decide_eq_true rfl], fun q => by omega, Nat.le_refl _, fun c => by omega⟩ (fun _ _ => trivial) (F' + 1) (by omega)
  refine ⟨L, ?_, z2⟩
  unfold f_X8_fittingBeginnings
  rw [lz_t, lz_t, q0, q9, f_X8_fittingBeginnings_27]
  rw [hR5.2, c4, show ((k - 1 : Nat) : Int) = (k : Int) - 1 by omega] at z1
  simp (disch := omega) only [z_0, z_1, z_2, z_3, z_4, z_5, z_6, z_7, z_8, z_9, z_10, z_11, z_12, z_14, z_18, z_20, z_22, z_24, z_32, z_38, z_40, z_41, z_44, z_48, z_49, z_57, z_59, z_60, z_63, z_65, z_74, z_75, z_81, z_97, z_99, z_104, z_115, z_119, z_122, z_200, z_209, z_210, z_219, z_228, z_255, z_300, z_369, z_999, z_65537, z_268435456, z_1000000000, n_nat, n_add, n_sub, n_mul, n_neg, n_lt, n_le, n_eq, n_ix, n_gd, n_nz, lz_t, bd_some, tn, Int.reduceToNat, tn_1, if_pos, if_neg, if_true, if_false, y_1]
  exact z1
