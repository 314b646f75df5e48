/-! the net: the class's roads, rounds, the least -/
def vA (G : Nat → Int) (l : Int) (c : Nat → Int) (t x : Nat) : Int := if G (x + t) < 1000000000 ∧ G (x + t) + l < c x then G (x + t) + l else c x
def gaC (G : Nat → Int) (l : Int) (q t k : Nat) (C : Nat → Nat → Int) (q' x : Nat) : Int := if q' = q ∧ x + t < k then vA G l (C q) t x else C q' x
theorem ga23 {F : Nat} {sRo sNe : MS} {r : Nat → Int32} (hR : RR sRo r) (h : ROK r) {p q t : Nat} (hq : q < nP r) (ht : 1 ≤ t) (p2 : Int32) {l : Int} (l1 : 0 ≤ l) (l2 : l ≤ 99) {G : Nat → Int} {B : Int} (hG : ∀ x, x ≤ nT r → (G x = 1000000000 ∨ (0 ≤ G x ∧ G x ≤ B)) ∧ sNe.2.2.1 1 x = Int32.ofInt (cN (G x))) (hB : B ≤ 100000000) {C : Nat → Nat → Int} (hC : COK C B) : ∀ (d k n : Nat) (fl : Bool) (s : MS), k + d = nT r + 1 → t ≤ k → d < n → repC r s (gaC G l q t k C) → (fl = false → gaC G l q t k C = C) →
    ∃ fl' s', f_X5_goAlong_23 F sNe sRo p2 (Int32.ofInt (q : Int)) (Int32.ofInt l) n (Int32.ofInt (fI fl)) (Int32.ofInt (t : Int)) (Int32.ofInt (k : Int)) s = some (Int32.ofInt (fI fl'), s') ∧ repC r s' (gaC G l q t (nT r + 1) C) ∧ (fl' = false → gaC G l q t (nT r + 1) C = C) := by
  obtain ⟨q0, q1, q2, q3, q4, q5, q8, q9⟩ := RRb hR
  obtain ⟨c1, c2, c3, c4, c5⟩ := nTP h
  intro d
  induction d with
  | zero =>
    intro k n fl s hk hk1 hn hs hfl
    cases n with
    | zero => omega
    | succ n =>
      have : k = nT r + 1 := hk
      subst this
      refine ⟨fl, s, ?_, hs, hfl⟩
      rw [f_X5_goAlong_23]
      simp (disch := omega) only [z_0, z_1, z_2, z_3, z_4, z_5, z_6, z_7, z_8, z_9, z_10, z_11, z_12, z_14, z_18, z_20, z_22, z_24, z_32, z_38, z_40, z_41, z_44, z_48, z_49, z_57, z_59, z_60, z_63, z_65, z_74, z_75, z_81, z_97, z_99, z_104, z_115, z_119, z_122, z_200, z_209, z_210, z_219, z_228, z_255, z_300, z_369, z_999, z_65537, z_268435456, z_1000000000, n_nat, n_add, n_sub, n_mul, n_neg, n_lt, n_le, n_eq, n_ix, n_gd, n_nz, lz_t, bd_some, tn, Int.reduceToNat, tn_1, if_pos, if_neg, if_true, if_false, q0, bob_f]
  | succ d ih =>
    intro k n fl s hk hk1 hn hs hfl
    cases n with
    | zero => omega
    | succ n =>
      obtain ⟨gk, gs⟩ := hG k (by omega)
      have gc := cN_c gk (by omega)
      have cell := hs q (k - t) hq (by omega)
      have ck : gaC G l q t k C q (k - t) = C q (k - t) := by unfold gaC; rw [if_neg (by omega)]
      rw [ck] at cell
      have cc := cN_c (hC q (k - t) (by omega)) (by omega)
      have et : (k : Int) - (t : Int) = ((k - t : Nat) : Int) := by omega
      have ekt : k - t + t = k := by omega
      have gn : ∀ q' x, (q' ≠ q ∨ x ≠ k - t) → gaC G l q t (k + 1) C q' x = gaC G l q t k C q' x := by
        intro q' x hne
        unfold gaC
        by_cases a1 : q' = q ∧ x + t < k
        · rw [if_pos a1, if_pos ⟨a1.1, by omega⟩]
        · rw [if_neg a1, if_neg (by omega)]
      have gkk : gaC G l q t (k + 1) C q (k - t) = vA G l (C q) t (k - t) := by unfold gaC; rw [if_pos ⟨rfl, by omega⟩]
      unfold vA at gkk
      rw [ekt] at gkk
      have same : ¬ (G k < 1000000000 ∧ G k + l < C q (k - t)) → gaC G l q t (k + 1) C = gaC G l q t k C := by
        intro hc
        funext q' x
        by_cases e : q' = q ∧ x = k - t
        · obtain ⟨rfl, rfl⟩ := e
          rw [gkk, if_neg hc, ck]
        · exact gn q' x (by omega)
      rw [f_X5_goAlong_23]
      by_cases g1 : G k < 1000000000
      · have ge : cN (G k) = G k := by omega
        rw [ge] at gs
        by_cases g2 : G k + l < C q (k - t)
        · rw [if_pos ⟨g1, g2⟩] at gkk
          obtain ⟨fl', s', z1, z2, z3⟩ := ih (k + 1) n true (sA s q (k - t) (Int32.ofInt (G k + l))) (by omega) (by omega) (by omega) (by
            intro q' x hq' hx
            by_cases e : q' = q
            · subst e
              by_cases e2 : x = k - t
              · subst e2
                simp (disch := omega) only [sI_a, sI_b, sL_a, sL_b, sL_c, wA_a, wA_b, wA_c, wA_d, wB_a, wB_b, wB_c, wB_d, sA_w, sB_w, uN_s, uN_n, up_s, up_n, ul_s, ul_n, p_fst, p_snd]
                rw [gkk]
                unfold cN
                rw [if_neg (by omega)]
              · simp (disch := omega) only [sI_a, sI_b, sL_a, sL_b, sL_c, wA_a, wA_b, wA_c, wA_d, wB_a, wB_b, wB_c, wB_d, sA_w, sB_w, uN_s, uN_n, up_s, up_n, ul_s, ul_n, p_fst, p_snd]
                rw [gn q' x (by omega)]
                exact hs q' x hq' hx
            · simp (disch := omega) only [sI_a, sI_b, sL_a, sL_b, sL_c, wA_a, wA_b, wA_c, wA_d, wB_a, wB_b, wB_c, wB_d, sA_w, sB_w, uN_s, uN_n, up_s, up_n, ul_s, ul_n, p_fst, p_snd]
              rw [gn q' x (by omega)]
              exact hs q' x hq' hx) (fun q => absurd q (by decide))
          refine ⟨fl', s', ?_, z2, z3⟩
          have cmp : cN (C q (k - t)) > G k + l := by omega
          simp (disch := omega) only [z_0, z_1, z_2, z_3, z_4, z_5, z_6, z_7, z_8, z_9, z_10, z_11, z_12, z_14, z_18, z_20, z_22, z_24, z_32, z_38, z_40, z_41, z_44, z_48, z_49, z_57, z_59, z_60, z_63, z_65, z_74, z_75, z_81, z_97, z_99, z_104, z_115, z_119, z_122, z_200, z_209, z_210, z_219, z_228, z_255, z_300, z_369, z_999, z_65537, z_268435456, z_1000000000, n_nat, n_add, n_sub, n_mul, n_neg, n_lt, n_le, n_eq, n_ix, n_gd, n_nz, lz_t, bd_some, tn, Int.reduceToNat, tn_1, if_pos, if_neg, if_true, if_false, q0, gs, et, cell, f_X5_goAlong_86]
          exact z1
        · have sm := same (fun z => g2 z.2)
          rw [← sm] at hs hfl
          obtain ⟨fl', s', z1, z2, z3⟩ := ih (k + 1) n fl s (by omega) (by omega) (by omega) hs hfl
          refine ⟨fl', s', ?_, z2, z3⟩
          have cmp : cN (C q (k - t)) ≤ G k + l := by omega
          simp (disch := omega) only [z_0, z_1, z_2, z_3, z_4, z_5, z_6, z_7, z_8, z_9, z_10, z_11, z_12, z_14, z_18, z_20, z_22, z_24, z_32, z_38, z_40, z_41, z_44, z_48, z_49, z_57, z_59, z_60, z_63, z_65, z_74, z_75, z_81, z_97, z_99, z_104, z_115, z_119, z_122, z_200, z_209, z_210, z_219, z_228, z_255, z_300, z_369, z_999, z_65537, z_268435456, z_1000000000, n_nat, n_add, n_sub, n_mul, n_neg, n_lt, n_le, n_eq, n_ix, n_gd, n_nz, lz_t, bd_some, tn, Int.reduceToNat, tn_1, if_pos, if_neg, if_true, if_false, q0, gs, et, cell, f_X5_goAlong_86]
          exact z1
      · have ge : cN (G k) = 268435456 := by omega
        rw [ge] at gs
        have sm := same (fun z => g1 z.1)
        rw [← sm] at hs hfl
        obtain ⟨fl', s', z1, z2, z3⟩ := ih (k + 1) n fl s (by omega) (by omega) (by omega) hs hfl
        refine ⟨fl', s', ?_, z2, z3⟩
        simp (disch := omega) only [z_0, z_1, z_2, z_3, z_4, z_5, z_6, z_7, z_8, z_9, z_10, z_11, z_12, z_14, z_18, z_20, z_22, z_24, z_32, z_38, z_40, z_41, z_44, z_48, z_49, z_57, z_59, z_60, z_63, z_65, z_74, z_75, z_81, z_97, z_99, z_104, z_115, z_119, z_122, z_200, z_209, z_210, z_219, z_228, z_255, z_300, z_369, z_999, z_65537, z_268435456, z_1000000000, n_nat, n_add, n_sub, n_mul, n_neg, n_lt, n_le, n_eq, n_ix, n_gd, n_nz, lz_t, bd_some, tn, Int.reduceToNat, tn_1, if_pos, if_neg, if_true, if_false, q0, gs, f_X5_goAlong_86]
        exact z1
def ocC (r : Nat → Int32) (mn : Bool) (p k : Nat) (C : Nat → Nat → Int) (q x : Nat) : Int := if q < k then cP r mn p C q x else C q x
theorem go6 {F : Nat} (hF : 100 ≤ F) {sRo sNe : MS} {r : Nat → Int32} (hR : RR sRo r) (h : ROK r) {mp : Int32} {mn : Bool} (hm : mp = 0 ↔ mn = false) {p : Nat} (hp : p < nP r) {C : Nat → Nat → Int} {B : Int} (hC : COK C B) (hB : B ≤ 90000000) (hG : ∀ x, x ≤ nT r → sNe.2.2.1 1 x = Int32.ofInt (cN (cG r mn p (C p) x))) : ∀ (d k n : Nat) (fl : Bool) (s : MS), k + d = nP r → d < n → repC r s (ocC r mn p k C) → (fl = false → ocC r mn p k C = C) →
    ∃ fl' s', f_X5_goOn_6 F sNe sRo (Int32.ofInt (p : Int)) mp n (Int32.ofInt (fI fl)) (Int32.ofInt (k : Int)) s = some (Int32.ofInt (fI fl'), s') ∧ repC r s' (cP r mn p C) ∧ (fl' = false → cP r mn p C = C) := by
  obtain ⟨q0, q1, q2, q3, q4, q5, q8, q9⟩ := RRb hR
  obtain ⟨c1, c2, c3, c4, c5⟩ := nTP h
  intro d
  induction d with
  | zero =>
    intro k n fl s hk hn hs hfl
    cases n with
    | zero => omega
    | succ n =>
      have eq : ocC r mn p k C = cP r mn p C := by
        funext q x
        unfold ocC
        split
        · rfl
        · unfold cP
          rw [if_neg (by omega)]
      rw [eq] at hs hfl
      refine ⟨fl, s, ?_, hs, hfl⟩
      rw [f_X5_goOn_6]
      simp (disch := omega) only [z_0, z_1, z_2, z_3, z_4, z_5, z_6, z_7, z_8, z_9, z_10, z_11, z_12, z_14, z_18, z_20, z_22, z_24, z_32, z_38, z_40, z_41, z_44, z_48, z_49, z_57, z_59, z_60, z_63, z_65, z_74, z_75, z_81, z_97, z_99, z_104, z_115, z_119, z_122, z_200, z_209, z_210, z_219, z_228, z_255, z_300, z_369, z_999, z_65537, z_268435456, z_1000000000, n_nat, n_add, n_sub, n_mul, n_neg, n_lt, n_le, n_eq, n_ix, n_gd, n_nz, lz_t, bd_some, tn, Int.reduceToNat, tn_1, if_pos, if_neg, if_true, if_false, q5, bob_f]
  | succ d ih =>
    intro k n fl s hk hn hs hfl
    cases n with
    | zero => omega
    | succ n =>
      have tb := tk_b h (show p < 9 by omega) (show k < 9 by omega)
      have lb := lc_b h mn (show p < 9 by omega) (show k < 9 by omega)
      have e9 : f_X9_isRoad F sRo (Int32.ofInt (p : Int)) (Int32.ofInt (k : Int)) = some (bi (decide (0 < tk r p k))) := B9_road (F := F) hR (show p < 9 by omega) (show k < 9 by omega)
      have p9 : f_X9_pintsOf F sRo (Int32.ofInt (p : Int)) (Int32.ofInt (k : Int)) = some (Int32.ofInt (tk r p k)) := B9_pints (F := F) hR (show p < 9 by omega) (show k < 9 by omega)
      have on : ∀ q x, q ≠ k → ocC r mn p (k + 1) C q x = ocC r mn p k C q x := by
        intro q x hne
        unfold ocC
        by_cases a1 : q < k
        · rw [if_pos a1, if_pos (by omega)]
        · rw [if_neg a1, if_neg (by omega)]
      rw [f_X5_goOn_6]
      by_cases ct : 0 < tk r p k
      · obtain ⟨t, hte⟩ := toN tb.1
        have tT : (tk r p k).toNat = t := by omega
        have gsp := fun x (hx : x ≤ nT r) => (cG_sp h mn (show p < 9 by omega) (hC p) (by omega) (f := x) (by omega)).2.2.2
        have ocB : COK (ocC r mn p k C) (B + 4059 + 99) := by
          have := cP_ok h mn (show p < 9 by omega) hC (by omega)
          intro q x hx
          unfold ocC
          split
          · have := this q x hx; omega
          · have := hC q x hx; omega
        have kE : gaC (cG r mn p (C p)) (lc r mn p k) k t (nT r + 1) (ocC r mn p k C) = ocC r mn p (k + 1) C := by
          funext q x
          by_cases e : q = k
          · subst e
            have oq : ocC r mn p q C q = C q := by
              funext x
              unfold ocC
              rw [if_neg (by omega)]
            have o1 : ocC r mn p (q + 1) C q x = cP r mn p C q x := by
              unfold ocC
              rw [if_pos (by omega)]
            rw [o1]
            unfold gaC
            rw [oq]
            unfold cP vA
            rw [tT]
            by_cases a1 : x + t < nT r + 1
            · rw [if_pos ⟨rfl, a1⟩]
              by_cases a2 : cG r mn p (C p) (x + t) < 1000000000 ∧ cG r mn p (C p) (x + t) + lc r mn p q < C q x
              · rw [if_pos a2, if_pos ⟨by omega, ct, by omega, a2.1, a2.2⟩]
              · rw [if_neg a2, if_neg (fun z => a2 z.2.2.2)]
            · rw [if_neg (fun z => a1 z.2), if_neg (fun z => a1 (by omega))]
          · rw [on q x e]
            unfold gaC
            rw [if_neg (fun z => e z.1)]
        have g0 : gaC (cG r mn p (C p)) (lc r mn p k) k t t (ocC r mn p k C) = ocC r mn p k C := by
          funext q x
          unfold gaC
          rw [if_neg (by omega)]
        have al : ∃ f1 s1, f_X5_goAlong F sNe sRo (Int32.ofInt (p : Int)) (Int32.ofInt (k : Int)) (Int32.ofInt (lc r mn p k)) s = some (Int32.ofInt (fI f1), s1) ∧ repC r s1 (ocC r mn p (k + 1) C) ∧ (f1 = false → ocC r mn p (k + 1) C = ocC r mn p k C) := by
          unfold f_X5_goAlong
          rw [p9, bd_some, hte]
          by_cases big : t ≤ nT r + 1
          · obtain ⟨f1, s1, y1, y2, y3⟩ := ga23 (F := F) (p := p) hR h (q := k) (t := t) (by omega) (by omega) (Int32.ofInt (p : Int)) lb.1 lb.2 (G := cG r mn p (C p)) (B := B + 4059 + 99) (fun x hx => ⟨by have := gsp x hx; omega, hG x hx⟩) (by omega) ocB (nT r + 1 - t) t F false s (by omega) (by omega) (by omega) (by rw [g0]; exact hs) (fun _ => g0)
            rw [kE] at y2 y3
            refine ⟨f1, s1, ?_, y2, y3⟩
            simp (disch := omega) only [n_gd]
            exact y1
          · have eq : ocC r mn p (k + 1) C = ocC r mn p k C := by
              rw [← kE]
              funext q x
              unfold gaC
              rw [if_neg (by omega)]
            refine ⟨false, s, ?_, by rw [eq]; exact hs, fun _ => eq⟩
            cases F with
            | zero => omega
            | succ F =>
              rw [f_X5_goAlong_23]
              simp (disch := omega) only [z_0, z_1, z_2, z_3, z_4, z_5, z_6, z_7, z_8, z_9, z_10, z_11, z_12, z_14, z_18, z_20, z_22, z_24, z_32, z_38, z_40, z_41, z_44, z_48, z_49, z_57, z_59, z_60, z_63, z_65, z_74, z_75, z_81, z_97, z_99, z_104, z_115, z_119, z_122, z_200, z_209, z_210, z_219, z_228, z_255, z_300, z_369, z_999, z_65537, z_268435456, z_1000000000, n_nat, n_add, n_sub, n_mul, n_neg, n_lt, n_le, n_eq, n_ix, n_gd, n_nz, lz_t, bd_some, tn, Int.reduceToNat, tn_1, if_pos, if_neg, if_true, if_false, q0]
              rfl
        obtain ⟨f1, s1, y1, y2, y3⟩ := al
        obtain ⟨fl', s', z1, z2, z3⟩ := ih (k + 1) n (f1 || fl) s1 (by omega) (by omega) y2 (by
          intro q
          rw [Bool.or_eq_false_iff] at q
          rw [y3 q.1, hfl q.2])
        refine ⟨fl', s', ?_, z2, z3⟩
        have e45 : f_X5_goOn_45 F sNe sRo (Int32.ofInt (p : Int)) mp (f_X5_goOn_6 F sNe sRo (Int32.ofInt (p : Int)) mp n) (Int32.ofInt (fI fl)) (Int32.ofInt (k : Int)) (Int32.ofInt (p : Int)) (Int32.ofInt (k : Int)) (Int32.ofInt (lc r mn p k)) s = some (Int32.ofInt (fI fl'), s') := by
          rw [← z1]
          unfold f_X5_goOn_45 f_X5_goOn_61 f_X5_goOn_56 f_X5_goOn_63
          have ef : (k : Int) + 1 = ((k + 1 : Nat) : Int) := by omega
          cases fl with
          | false =>
            cases f1 with
            | false => simp (disch := omega) only [z_0, z_1, z_2, z_3, z_4, z_5, z_6, z_7, z_8, z_9, z_10, z_11, z_12, z_14, z_18, z_20, z_22, z_24, z_32, z_38, z_40, z_41, z_44, z_48, z_49, z_57, z_59, z_60, z_63, z_65, z_74, z_75, z_81, z_97, z_99, z_104, z_115, z_119, z_122, z_200, z_209, z_210, z_219, z_228, z_255, z_300, z_369, z_999, z_65537, z_268435456, z_1000000000, n_nat, n_add, n_sub, n_mul, n_neg, n_lt, n_le, n_eq, n_ix, n_gd, n_nz, lz_t, bd_some, tn, Int.reduceToNat, tn_1, if_pos, if_neg, if_true, if_false, y1, fI, f_X5_goOn_61, f_X5_goOn_63, Bool.false_eq_true, Bool.or_false, ef]
            | true => simp (disch := omega) only [z_0, z_1, z_2, z_3, z_4, z_5, z_6, z_7, z_8, z_9, z_10, z_11, z_12, z_14, z_18, z_20, z_22, z_24, z_32, z_38, z_40, z_41, z_44, z_48, z_49, z_57, z_59, z_60, z_63, z_65, z_74, z_75, z_81, z_97, z_99, z_104, z_115, z_119, z_122, z_200, z_209, z_210, z_219, z_228, z_255, z_300, z_369, z_999, z_65537, z_268435456, z_1000000000, n_nat, n_add, n_sub, n_mul, n_neg, n_lt, n_le, n_eq, n_ix, n_gd, n_nz, lz_t, bd_some, tn, Int.reduceToNat, tn_1, if_pos, if_neg, if_true, if_false, y1, fI, f_X5_goOn_61, f_X5_goOn_63, Bool.false_eq_true, Bool.or_false, ef]
          | true =>
            cases f1 with
            | false => simp (disch := omega) only [z_0, z_1, z_2, z_3, z_4, z_5, z_6, z_7, z_8, z_9, z_10, z_11, z_12, z_14, z_18, z_20, z_22, z_24, z_32, z_38, z_40, z_41, z_44, z_48, z_49, z_57, z_59, z_60, z_63, z_65, z_74, z_75, z_81, z_97, z_99, z_104, z_115, z_119, z_122, z_200, z_209, z_210, z_219, z_228, z_255, z_300, z_369, z_999, z_65537, z_268435456, z_1000000000, n_nat, n_add, n_sub, n_mul, n_neg, n_lt, n_le, n_eq, n_ix, n_gd, n_nz, lz_t, bd_some, tn, Int.reduceToNat, tn_1, if_pos, if_neg, if_true, if_false, y1, fI, f_X5_goOn_61, f_X5_goOn_63, Bool.false_eq_true, Bool.or_true, ef]
            | true => simp (disch := omega) only [z_0, z_1, z_2, z_3, z_4, z_5, z_6, z_7, z_8, z_9, z_10, z_11, z_12, z_14, z_18, z_20, z_22, z_24, z_32, z_38, z_40, z_41, z_44, z_48, z_49, z_57, z_59, z_60, z_63, z_65, z_74, z_75, z_81, z_97, z_99, z_104, z_115, z_119, z_122, z_200, z_209, z_210, z_219, z_228, z_255, z_300, z_369, z_999, z_65537, z_268435456, z_1000000000, n_nat, n_add, n_sub, n_mul, n_neg, n_lt, n_le, n_eq, n_ix, n_gd, n_nz, lz_t, bd_some, tn, Int.reduceToNat, tn_1, if_pos, if_neg, if_true, if_false, y1, fI, f_X5_goOn_61, f_X5_goOn_63, Bool.false_eq_true, Bool.or_true, ef]
        by_cases cm : mp = 0
        · have hmn : mn = false := hm.mp cm
          have be : lc r mn p k = 0 := by unfold lc; rw [hmn]; rfl
          have cm' : mp = Int32.ofInt 0 := cm
          rw [be] at e45
          simp (disch := omega) only [z_0, z_1, z_2, z_3, z_4, z_5, z_6, z_7, z_8, z_9, z_10, z_11, z_12, z_14, z_18, z_20, z_22, z_24, z_32, z_38, z_40, z_41, z_44, z_48, z_49, z_57, z_59, z_60, z_63, z_65, z_74, z_75, z_81, z_97, z_99, z_104, z_115, z_119, z_122, z_200, z_209, z_210, z_219, z_228, z_255, z_300, z_369, z_999, z_65537, z_268435456, z_1000000000, n_nat, n_add, n_sub, n_mul, n_neg, n_lt, n_le, n_eq, n_ix, n_gd, n_nz, lz_t, bd_some, tn, Int.reduceToNat, tn_1, if_pos, if_neg, if_true, if_false, q5, e9, bi_z, decide_eq_false_iff_not, if_pos cm']
          exact e45
        · have hmn : mn = true := by cases mn with
            | true => rfl
            | false => exact absurd (hm.mpr rfl) cm
          have be : lc r mn p k = rd r (119 + (9 * p + k)) := by unfold lc; rw [hmn]; rfl
          have m9 : f_X9_minutesOf F sRo (Int32.ofInt (p : Int)) (Int32.ofInt (k : Int)) = some (Int32.ofInt (rd r (119 + (9 * p + k)))) := by
            rw [B9_min hR (show p < 9 by omega) (show k < 9 by omega), rd_e r]
          have cm' : ¬ mp = Int32.ofInt 0 := cm
          rw [be] at e45
          simp (disch := omega) only [z_0, z_1, z_2, z_3, z_4, z_5, z_6, z_7, z_8, z_9, z_10, z_11, z_12, z_14, z_18, z_20, z_22, z_24, z_32, z_38, z_40, z_41, z_44, z_48, z_49, z_57, z_59, z_60, z_63, z_65, z_74, z_75, z_81, z_97, z_99, z_104, z_115, z_119, z_122, z_200, z_209, z_210, z_219, z_228, z_255, z_300, z_369, z_999, z_65537, z_268435456, z_1000000000, n_nat, n_add, n_sub, n_mul, n_neg, n_lt, n_le, n_eq, n_ix, n_gd, n_nz, lz_t, bd_some, tn, Int.reduceToNat, tn_1, if_pos, if_neg, if_true, if_false, q5, e9, bi_z, decide_eq_false_iff_not, if_neg cm', m9]
          exact e45
      · have eq : ocC r mn p (k + 1) C = ocC r mn p k C := by
          funext q x
          by_cases e : q = k
          · subst e
            unfold ocC cP
            rw [if_pos (by omega), if_neg (show ¬ q < q by omega), if_neg (fun z => ct z.2.1)]
          · exact on q x e
        rw [← eq] at hs hfl
        obtain ⟨fl', s', z1, z2, z3⟩ := ih (k + 1) n fl s (by omega) (by omega) hs hfl
        refine ⟨fl', s', ?_, z2, z3⟩
        simp (disch := omega) only [z_0, z_1, z_2, z_3, z_4, z_5, z_6, z_7, z_8, z_9, z_10, z_11, z_12, z_14, z_18, z_20, z_22, z_24, z_32, z_38, z_40, z_41, z_44, z_48, z_49, z_57, z_59, z_60, z_63, z_65, z_74, z_75, z_81, z_97, z_99, z_104, z_115, z_119, z_122, z_200, z_209, z_210, z_219, z_228, z_255, z_300, z_369, z_999, z_65537, z_268435456, z_1000000000, n_nat, n_add, n_sub, n_mul, n_neg, n_lt, n_le, n_eq, n_ix, n_gd, n_nz, lz_t, bd_some, tn, Int.reduceToNat, tn_1, if_pos, if_neg, if_true, if_false, q5, e9, bi_z, decide_eq_false_iff_not, f_X5_goOn_63]
        exact z1
theorem goOn_e {F : Nat} (hF : 100 ≤ F) {sRo sNe : MS} {r : Nat → Int32} (hR : RR sRo r) (h : ROK r) {mp : Int32} {mn : Bool} (hm : mp = 0 ↔ mn = false) {p : Nat} (hp : p < nP r) {C : Nat → Nat → Int} {B : Int} (hC : COK C B) (hB : B ≤ 90000000) (hG : ∀ x, x ≤ nT r → sNe.2.2.1 1 x = Int32.ofInt (cN (cG r mn p (C p) x))) (s : MS) (hs : repC r s C) :
    ∃ fl' s', f_X5_goOn F sNe sRo (Int32.ofInt (p : Int)) mp s = some (Int32.ofInt (fI fl'), s') ∧ repC r s' (cP r mn p C) ∧ (fl' = false → cP r mn p C = C) := by
  obtain ⟨c1, c2, c3, c4, c5⟩ := nTP h
  have e0 : ocC r mn p 0 C = C := by
    funext q x
    unfold ocC
    rw [if_neg (by omega)]
  exact go6 hF hR h hm hp hC hB hG (nP r) 0 F false s (by omega) (by omega) (by rw [e0]; exact hs) (fun _ => e0)
theorem ls64 {F : Nat} (hF : 100 ≤ F) {sRo : MS} {r : Nat → Int32} (hR : RR sRo r) (h : ROK r) {mp : Int32} {mn : Bool} (hm : mp = 0 ↔ mn = false) (x4 : Int32) (k47 : Int32 → Int32 → MS → MS → Option (Int32 × MS × MS)) : ∀ (d p n : Nat) (fl : Bool) (sNe sNc : MS) (C : Nat → Nat → Int) (B : Int), p + d = nP r → d < n → COK C B → B + 4158 * d ≤ 90000000 → repC r sNc C →
    ∃ fl' sNe' sNc', f_X5_least_64 F sRo mp k47 n (Int32.ofInt (fI fl)) x4 (Int32.ofInt (p : Int)) sNe sNc = k47 (Int32.ofInt (fI fl')) (x4 + 1) sNe' sNc' ∧ repC r sNc' (nRd r mn d p C) ∧ (fl' = false → fl = false ∧ nRd r mn d p C = C) := by
  obtain ⟨q0, q1, q2, q3, q4, q5, q8, q9⟩ := RRb hR
  obtain ⟨c1, c2, c3, c4, c5⟩ := nTP h
  intro d
  induction d with
  | zero =>
    intro p n fl sNe sNc C B hp hn hC hB hs
    cases n with
    | zero => omega
    | succ n =>
      refine ⟨fl, sNe, sNc, ?_, hs, fun q => ⟨q, rfl⟩⟩
      rw [f_X5_least_64]
      simp (disch := omega) only [z_0, z_1, z_2, z_3, z_4, z_5, z_6, z_7, z_8, z_9, z_10, z_11, z_12, z_14, z_18, z_20, z_22, z_24, z_32, z_38, z_40, z_41, z_44, z_48, z_49, z_57, z_59, z_60, z_63, z_65, z_74, z_75, z_81, z_97, z_99, z_104, z_115, z_119, z_122, z_200, z_209, z_210, z_219, z_228, z_255, z_300, z_369, z_999, z_65537, z_268435456, z_1000000000, n_nat, n_add, n_sub, n_mul, n_neg, n_lt, n_le, n_eq, n_ix, n_gd, n_nz, lz_t, bd_some, tn, Int.reduceToNat, tn_1, if_pos, if_neg, if_true, if_false, q5, f_X5_least_108]
  | succ d ih =>
    intro p n fl sNe sNc C B hp hn hC hB hs
    cases n with
    | zero => omega
    | succ n =>
      obtain ⟨s1, y1, y2⟩ := stopAt_e (F := F) hF hR h hm (p := p) (by omega) hC (by omega) hs sNe
      obtain ⟨f1, s2, x1, x2, x3⟩ := goOn_e (F := F) hF hR h hm (p := p) (by omega) hC (by omega) y2 sNc hs
      obtain ⟨fl', sNe', sNc', z1, z2, z3⟩ := ih (p + 1) n (f1 || fl) s1 s2 (cP r mn p C) (B + 4158) (by omega) (by omega) (cP_ok h mn (by omega) hC (by omega)) (by omega) x2
      refine ⟨fl', sNe', sNc', ?_, z2, ?_⟩
      · rw [f_X5_least_64, ← z1]
        have ef : (p : Int) + 1 = ((p + 1 : Nat) : Int) := by omega
        cases fl with
        | false =>
          cases f1 with
          | false => simp (disch := omega) only [z_0, z_1, z_2, z_3, z_4, z_5, z_6, z_7, z_8, z_9, z_10, z_11, z_12, z_14, z_18, z_20, z_22, z_24, z_32, z_38, z_40, z_41, z_44, z_48, z_49, z_57, z_59, z_60, z_63, z_65, z_74, z_75, z_81, z_97, z_99, z_104, z_115, z_119, z_122, z_200, z_209, z_210, z_219, z_228, z_255, z_300, z_369, z_999, z_65537, z_268435456, z_1000000000, n_nat, n_add, n_sub, n_mul, n_neg, n_lt, n_le, n_eq, n_ix, n_gd, n_nz, lz_t, bd_some, tn, Int.reduceToNat, tn_1, if_pos, if_neg, if_true, if_false, q5, y1, x1, fI, f_X5_least_101, f_X5_least_96, Bool.false_eq_true, Bool.or_false, ef]
          | true => simp (disch := omega) only [z_0, z_1, z_2, z_3, z_4, z_5, z_6, z_7, z_8, z_9, z_10, z_11, z_12, z_14, z_18, z_20, z_22, z_24, z_32, z_38, z_40, z_41, z_44, z_48, z_49, z_57, z_59, z_60, z_63, z_65, z_74, z_75, z_81, z_97, z_99, z_104, z_115, z_119, z_122, z_200, z_209, z_210, z_219, z_228, z_255, z_300, z_369, z_999, z_65537, z_268435456, z_1000000000, n_nat, n_add, n_sub, n_mul, n_neg, n_lt, n_le, n_eq, n_ix, n_gd, n_nz, lz_t, bd_some, tn, Int.reduceToNat, tn_1, if_pos, if_neg, if_true, if_false, q5, y1, x1, fI, f_X5_least_101, f_X5_least_96, Bool.false_eq_true, Bool.or_false, ef]
        | true =>
          cases f1 with
          | false => simp (disch := omega) only [z_0, z_1, z_2, z_3, z_4, z_5, z_6, z_7, z_8, z_9, z_10, z_11, z_12, z_14, z_18, z_20, z_22, z_24, z_32, z_38, z_40, z_41, z_44, z_48, z_49, z_57, z_59, z_60, z_63, z_65, z_74, z_75, z_81, z_97, z_99, z_104, z_115, z_119, z_122, z_200, z_209, z_210, z_219, z_228, z_255, z_300, z_369, z_999, z_65537, z_268435456, z_1000000000, n_nat, n_add, n_sub, n_mul, n_neg, n_lt, n_le, n_eq, n_ix, n_gd, n_nz, lz_t, bd_some, tn, Int.reduceToNat, tn_1, if_pos, if_neg, if_true, if_false, q5, y1, x1, fI, f_X5_least_101, f_X5_least_96, Bool.false_eq_true, Bool.or_true, ef]
          | true => simp (disch := omega) only [z_0, z_1, z_2, z_3, z_4, z_5, z_6, z_7, z_8, z_9, z_10, z_11, z_12, z_14, z_18, z_20, z_22, z_24, z_32, z_38, z_40, z_41, z_44, z_48, z_49, z_57, z_59, z_60, z_63, z_65, z_74, z_75, z_81, z_97, z_99, z_104, z_115, z_119, z_122, z_200, z_209, z_210, z_219, z_228, z_255, z_300, z_369, z_999, z_65537, z_268435456, z_1000000000, n_nat, n_add, n_sub, n_mul, n_neg, n_lt, n_le, n_eq, n_ix, n_gd, n_nz, lz_t, bd_some, tn, Int.reduceToNat, tn_1, if_pos, if_neg, if_true, if_false, q5, y1, x1, fI, f_X5_least_101, f_X5_least_96, Bool.false_eq_true, Bool.or_true, ef]
      · intro q
        obtain ⟨a1, a2⟩ := z3 q
        rw [Bool.or_eq_false_iff] at a1
        refine ⟨a1.2, ?_⟩
        show nRd r mn d (p + 1) (cP r mn p C) = C
        rw [a2, x3 a1.1]
theorem ls47 {F : Nat} (hF : 500 ≤ F) {sRo : MS} {r : Nat → Int32} (hR : RR sRo r) (h : ROK r) {mp : Int32} {mn : Bool} (hm : mp = 0 ↔ mn = false) {M Q : Nat → Nat → Int} (hM : RG M) (hQ : Clo r mn M Q) {p0 x0 : Nat} (hx0 : x0 ≤ 40) : ∀ (d k n : Nat) (fl : Bool) (sNe sNc : MS) (C : Nat → Nat → Int), k + d = 369 → d + 1 < n → COK C (40000 * k) → repC r sNc C → (∀ q x, x ≤ 40 → M q x ≤ C q x) → C p0 x0 = M p0 x0 → (AF r mn M p0 x0 C ∨ (fl = true ∧ k + 1 ≤ cnt (fin' M C) 369)) →
    ∃ sNe' sNc' C', f_X5_least_47 F sRo mp n (Int32.ofInt (fI fl)) (Int32.ofInt (k : Int)) sNe sNc = f_X5_least_114 F sRo mp sNe' sNc' ∧ repC r sNc' C' ∧ COK C' 20000000 ∧ AF r mn M p0 x0 C' ∧ (∀ q x, x ≤ 40 → M q x ≤ C' q x) := by
  obtain ⟨c1, c2, c3, c4, c5⟩ := nTP h
  intro d
  induction d with
  | zero =>
    intro k n fl sNe sNc C hk hn hC hs hlo h0 hA
    cases n with
    | zero => omega
    | succ n =>
      have af : AF r mn M p0 x0 C := by
        rcases hA with a | ⟨-, a⟩
        · exact a
        · have := cnt_le (fin' M C) 369
          omega
      refine ⟨sNe, sNc, C, ?_, hs, fun p f hf => by have := hC p f hf; omega, af, hlo⟩
      rw [f_X5_least_47]
      cases fl with
      | false => rfl
      | true => simp (disch := omega) only [z_0, z_1, z_2, z_3, z_4, z_5, z_6, z_7, z_8, z_9, z_10, z_11, z_12, z_14, z_18, z_20, z_22, z_24, z_32, z_38, z_40, z_41, z_44, z_48, z_49, z_57, z_59, z_60, z_63, z_65, z_74, z_75, z_81, z_97, z_99, z_104, z_115, z_119, z_122, z_200, z_209, z_210, z_219, z_228, z_255, z_300, z_369, z_999, z_65537, z_268435456, z_1000000000, n_nat, n_add, n_sub, n_mul, n_neg, n_lt, n_le, n_eq, n_ix, n_gd, n_nz, lz_t, bd_some, tn, Int.reduceToNat, tn_1, if_pos, if_neg, if_true, if_false, fI]
  | succ d ih =>
    intro k n fl sNe sNc C hk hn hC hs hlo h0 hA
    cases n with
    | zero => omega
    | succ n =>
      cases fl with
      | false =>
        have af : AF r mn M p0 x0 C := by
          rcases hA with a | ⟨a, -⟩
          · exact a
          · exact absurd a (by decide)
        refine ⟨sNe, sNc, C, ?_, hs, fun p f hf => by have := hC p f hf; omega, af, hlo⟩
        rw [f_X5_least_47]
        rfl
      | true =>
        obtain ⟨fl', s1, s2, y1, y2, y3⟩ := ls64 (F := F) (by omega) hR h hm (Int32.ofInt (k : Int)) (f_X5_least_47 F sRo mp n) (nP r) 0 F false sNe sNc C (40000 * k) (by omega) (by omega) hC (by omega) hs
        have ok' := nRd_ok h mn (nP r) 0 C (40000 * k) (by omega) hC (by omega)
        have lo' := nRd_lo h hM hQ (nP r) 0 C (40000 * k) (by omega) hC (by omega) hlo
        have rc := round_c h hM hQ (p0 := p0) (x0 := x0) hC (by omega) hlo h0
        have af' : AF r mn M p0 x0 C → AF r mn M p0 x0 (nRd r mn (nP r) 0 C) := by
          intro a p x hr
          have e := a p x hr
          by_cases hx : x ≤ 40
          · have := lo' p x hx
            omega
          · exfalso
            have bad : ∀ p x, Rea r mn M p0 x0 p x → x0 ≤ 40 → x ≤ 40 := by
              intro p x hr' hx0
              exact hr' (fun _ x => x ≤ 40) hx0 (fun p g q f _ _ a3 _ _ _ _ _ _ _ _ => by omega)
            exact hx (bad p x hr hx0)
        have h0' : nRd r mn (nP r) 0 C p0 x0 = M p0 x0 := by
          have := lo' p0 x0 hx0
          omega
        have y1' : f_X5_least_64 F sRo mp (f_X5_least_47 F sRo mp n) F (Int32.ofInt 0) (Int32.ofInt (k : Int)) (Int32.ofInt 0) sNe sNc = _ := y1
        obtain ⟨s3, s4, C', z1, z2, z3, z4, z5⟩ := ih (k + 1) n fl' s1 s2 (nRd r mn (nP r) 0 C) (by omega) (by omega) (fun p f hf => by have := ok' p f hf; omega) y2 (fun q x hx => (lo' q x hx).1) h0' (by
          rcases rc with a | a
          · exact Or.inl (af' a)
          · cases fl' with
            | false =>
              have := (y3 rfl).2
              rw [this] at a
              omega
            | true =>
              rcases hA with b | ⟨-, b⟩
              · exact Or.inl (af' b)
              · exact Or.inr ⟨rfl, by omega⟩)
        refine ⟨s3, s4, C', ?_, z2, z3, z4, z5⟩
        rw [f_X5_least_47, ← z1]
        simp (disch := omega) only [z_0, z_1, z_2, z_3, z_4, z_5, z_6, z_7, z_8, z_9, z_10, z_11, z_12, z_14, z_18, z_20, z_22, z_24, z_32, z_38, z_40, z_41, z_44, z_48, z_49, z_57, z_59, z_60, z_63, z_65, z_74, z_75, z_81, z_97, z_99, z_104, z_115, z_119, z_122, z_200, z_209, z_210, z_219, z_228, z_255, z_300, z_369, z_999, z_65537, z_268435456, z_1000000000, n_nat, n_add, n_sub, n_mul, n_neg, n_lt, n_le, n_eq, n_ix, n_gd, n_nz, lz_t, bd_some, tn, Int.reduceToNat, tn_1, if_pos, if_neg, if_true, if_false, fI, y1']
        rfl
theorem AF_eq {r : Nat → Int32} (h : ROK r) {mn : Bool} {M Q : Nat → Nat → Int} (hM : RG M) (hQ : Clo r mn M Q) {p0 x0 : Nat} (hc : Ch r mn (I0 p0 x0) (fun _ _ => 1000000000) M Q) {C : Nat → Nat → Int} {B : Int} (hC : COK C B) (hB : B ≤ 100000000) (af : AF r mn M p0 x0 C) (hlo : ∀ q x, x ≤ 40 → M q x ≤ C q x) : ∀ p x, x ≤ 40 → C p x = M p x := by
  intro p x hx
  by_cases c : M p x < 1000000000
  · exact af p x ((reach h hc hQ).1 p x c)
  · have := hlo p x hx
    have := hM p x
    have := hC p x hx
    omega
def mnF (c : Nat → Int) : Nat → Int
  | 0 => 1000000000
  | k + 1 => if c k < mnF c k then c k else mnF c k
theorem mnF_s (c : Nat → Int) (k : Nat) : mnF c (k + 1) = if c k < mnF c k then c k else mnF c k := rfl
theorem mnF_b {c : Nat → Int} {B : Int} (hc : cOK c B) : ∀ k, k ≤ 41 → mnF c k = 1000000000 ∨ (0 ≤ mnF c k ∧ mnF c k ≤ B)
  | 0, _ => Or.inl rfl
  | k + 1, hk => by
    have := mnF_b hc k (by omega)
    have := hc k (by omega)
    rw [mnF_s]
    split <;> omega
theorem goal_e {F : Nat} {sRo : MS} {r : Nat → Int32} (hR : RR sRo r) (h : ROK r) : f_X9_goal F sRo = some (Int32.ofInt (wp r ((rd r 8).toNat - 1) : Int)) := by
  obtain ⟨q0, q1, q2, q3, q4, q5, q8, q9⟩ := RRb hR
  obtain ⟨t0, t1, t2, t3, t4, t5, t8, t9⟩ := ROKb h
  have wR := hR.2.2.2.2.1 ((rd r 8).toNat - 1) (by show (((rd r 8).toNat - 1 : Nat) : Int) < rd r 8; omega)
  rw [(wp_b h (i := (rd r 8).toNat - 1) (by omega)).2] at wR
  have e : (rd r 8 - 1).toNat = (rd r 8).toNat - 1 := by omega
  unfold f_X9_goal
  simp (disch := omega) only [z_0, z_1, z_2, z_3, z_4, z_5, z_6, z_7, z_8, z_9, z_10, z_11, z_12, z_14, z_18, z_20, z_22, z_24, z_32, z_38, z_40, z_41, z_44, z_48, z_49, z_57, z_59, z_60, z_63, z_65, z_74, z_75, z_81, z_97, z_99, z_104, z_115, z_119, z_122, z_200, z_209, z_210, z_219, z_228, z_255, z_300, z_369, z_999, z_65537, z_268435456, z_1000000000, n_nat, n_add, n_sub, n_mul, n_neg, n_lt, n_le, n_eq, n_ix, n_gd, n_nz, lz_t, bd_some, tn, Int.reduceToNat, tn_1, if_pos, if_neg, if_true, if_false, q8, e, wR]
theorem ls121 {F : Nat} {sRo sNe sNc : MS} {r : Nat → Int32} (hR : RR sRo r) (h : ROK r) (mp : Int32) {C : Nat → Nat → Int} (hC : COK C 20000000) (hs : repC r sNc C) : ∀ (d k n : Nat), k + d = nT r + 1 → d < n → f_X5_least_121 F sRo mp n (Int32.ofInt (cN (mnF (C (wp r ((rd r 8).toNat - 1))) k))) (Int32.ofInt (k : Int)) sNe sNc = some (Int32.ofInt (ans (mnF (C (wp r ((rd r 8).toNat - 1))) (nT r + 1))), sNe, sNc) := by
  obtain ⟨q0, q1, q2, q3, q4, q5, q8, q9⟩ := RRb hR
  obtain ⟨c1, c2, c3, c4, c5⟩ := nTP h
  obtain ⟨t0, t1, t2, t3, t4, t5, t8, t9⟩ := ROKb h
  have w9 := (wp_b h (i := (rd r 8).toNat - 1) (by omega)).1
  have wP : wp r ((rd r 8).toNat - 1) < nP r := by
    have := (h.2.2.2.2.2.2.2.2.2.2.2.2.2.1 ((rd r 8).toNat - 1) (by show (((rd r 8).toNat - 1 : Nat) : Int) < rd r 8; omega))
    have e := i_nat (r (200 + ((rd r 8).toNat - 1))) this.1
    have e5 : (r 5).toInt = rd r 5 := rfl
    unfold wp
    omega
  intro d
  induction d with
  | zero =>
    intro k n hk hn
    cases n with
    | zero => omega
    | succ n =>
      have : k = nT r + 1 := hk
      subst this
      have mb := cN_c (mnF_b (hC (wp r ((rd r 8).toNat - 1))) (nT r + 1) (by omega)) (by omega)
      rw [f_X5_least_121]
      unfold ans
      by_cases c : mnF (C (wp r ((rd r 8).toNat - 1))) (nT r + 1) = 1000000000
      · simp (disch := omega) only [z_0, z_1, z_2, z_3, z_4, z_5, z_6, z_7, z_8, z_9, z_10, z_11, z_12, z_14, z_18, z_20, z_22, z_24, z_32, z_38, z_40, z_41, z_44, z_48, z_49, z_57, z_59, z_60, z_63, z_65, z_74, z_75, z_81, z_97, z_99, z_104, z_115, z_119, z_122, z_200, z_209, z_210, z_219, z_228, z_255, z_300, z_369, z_999, z_65537, z_268435456, z_1000000000, n_nat, n_add, n_sub, n_mul, n_neg, n_lt, n_le, n_eq, n_ix, n_gd, n_nz, lz_t, bd_some, tn, Int.reduceToNat, tn_1, if_pos, if_neg, if_true, if_false, q0, f_X5_least_155]
      · have ce : cN (mnF (C (wp r ((rd r 8).toNat - 1))) (nT r + 1)) = mnF (C (wp r ((rd r 8).toNat - 1))) (nT r + 1) := by omega
        rw [ce]
        simp (disch := omega) only [z_0, z_1, z_2, z_3, z_4, z_5, z_6, z_7, z_8, z_9, z_10, z_11, z_12, z_14, z_18, z_20, z_22, z_24, z_32, z_38, z_40, z_41, z_44, z_48, z_49, z_57, z_59, z_60, z_63, z_65, z_74, z_75, z_81, z_97, z_99, z_104, z_115, z_119, z_122, z_200, z_209, z_210, z_219, z_228, z_255, z_300, z_369, z_999, z_65537, z_268435456, z_1000000000, n_nat, n_add, n_sub, n_mul, n_neg, n_lt, n_le, n_eq, n_ix, n_gd, n_nz, lz_t, bd_some, tn, Int.reduceToNat, tn_1, if_pos, if_neg, if_true, if_false, q0, f_X5_least_155]
  | succ d ih =>
    intro k n hk hn
    cases n with
    | zero => omega
    | succ n =>
      have nx := ih (k + 1) n (by omega) (by omega)
      have mb := cN_c (mnF_b (hC (wp r ((rd r 8).toNat - 1))) k (by omega)) (by omega)
      have cb := cN_c (hC (wp r ((rd r 8).toNat - 1)) k (by omega)) (by omega)
      have cell := hs (wp r ((rd r 8).toNat - 1)) k wP (by omega)
      rw [mnF_s] at nx
      rw [f_X5_least_121]
      by_cases c : C (wp r ((rd r 8).toNat - 1)) k < mnF (C (wp r ((rd r 8).toNat - 1))) k
      · rw [if_pos c] at nx
        have cmp : cN (C (wp r ((rd r 8).toNat - 1)) k) < cN (mnF (C (wp r ((rd r 8).toNat - 1))) k) := by omega
        simp (disch := omega) only [z_0, z_1, z_2, z_3, z_4, z_5, z_6, z_7, z_8, z_9, z_10, z_11, z_12, z_14, z_18, z_20, z_22, z_24, z_32, z_38, z_40, z_41, z_44, z_48, z_49, z_57, z_59, z_60, z_63, z_65, z_74, z_75, z_81, z_97, z_99, z_104, z_115, z_119, z_122, z_200, z_209, z_210, z_219, z_228, z_255, z_300, z_369, z_999, z_65537, z_268435456, z_1000000000, n_nat, n_add, n_sub, n_mul, n_neg, n_lt, n_le, n_eq, n_ix, n_gd, n_nz, lz_t, bd_some, tn, Int.reduceToNat, tn_1, if_pos, if_neg, if_true, if_false, q0, goal_e hR h, cell]
        exact nx
      · rw [if_neg c] at nx
        have cmp : ¬ cN (C (wp r ((rd r 8).toNat - 1)) k) < cN (mnF (C (wp r ((rd r 8).toNat - 1))) k) := by omega
        simp (disch := omega) only [z_0, z_1, z_2, z_3, z_4, z_5, z_6, z_7, z_8, z_9, z_10, z_11, z_12, z_14, z_18, z_20, z_22, z_24, z_32, z_38, z_40, z_41, z_44, z_48, z_49, z_57, z_59, z_60, z_63, z_65, z_74, z_75, z_81, z_97, z_99, z_104, z_115, z_119, z_122, z_200, z_209, z_210, z_219, z_228, z_255, z_300, z_369, z_999, z_65537, z_268435456, z_1000000000, n_nat, n_add, n_sub, n_mul, n_neg, n_lt, n_le, n_eq, n_ix, n_gd, n_nz, lz_t, bd_some, tn, Int.reduceToNat, tn_1, if_pos, if_neg, if_true, if_false, q0, goal_e hR h, cell]
        exact nx
theorem ls2 {F : Nat} (hF : 2000 ≤ F) {sRo : MS} {r : Nat → Int32} (hR : RR sRo r) (h : ROK r) {mp : Int32} {mn : Bool} (hm : mp = 0 ↔ mn = false) {M Q : Nat → Nat → Int} (hM : RG M) (hQ : Clo r mn M Q) (hc : Ch r mn (I0 (wp r 0) (rd r 1).toNat) (fun _ _ => 1000000000) M Q) : ∀ (d k n : Nat) (sNe sNc : MS), k + d = nP r → d < n → (∀ p f, p < k → f ≤ 40 → sNc.2.2.1 p f = Int32.ofInt 268435456) →
    ∃ sNe' sNc', f_X5_least_2 F sRo mp n (Int32.ofInt (k : Int)) sNe sNc = some (Int32.ofInt (ans (mnF (M (wp r ((rd r 8).toNat - 1))) (nT r + 1))), sNe', sNc') := by
  obtain ⟨q0, q1, q2, q3, q4, q5, q8, q9⟩ := RRb hR
  obtain ⟨c1, c2, c3, c4, c5⟩ := nTP h
  obtain ⟨t0, t1, t2, t3, t4, t5, t8, t9⟩ := ROKb h
  intro d
  induction d with
  | zero =>
    intro k n sNe sNc hk hn hs
    cases n with
    | zero => omega
    | succ n =>
      obtain ⟨w1, w2⟩ := wp_b h (i := 0) (by omega)
      have wR := hR.2.2.2.2.1 0 (by show ((0 : Nat) : Int) < rd r 8; omega)
      rw [w2] at wR
      have mono := fun p x => (show M p x ≤ I0 (wp r 0) (rd r 1).toNat p x by
        obtain ⟨n, σ, τ, a1, a2, a3, a4, a5⟩ := hc
        have := (mono_ch a5 n 0 (by omega)).1 p x
        rw [a3, a1] at this
        exact this)
      have m0 : M (wp r 0) (rd r 1).toNat = 0 := by
        have a := mono (wp r 0) (rd r 1).toNat
        have b := hM (wp r 0) (rd r 1).toNat
        unfold I0 at a
        rw [if_pos ⟨rfl, rfl⟩] at a
        omega
      have i0 : I0 (wp r 0) (rd r 1).toNat (wp r 0) (rd r 1).toNat = 0 := by
        unfold I0
        rw [if_pos ⟨rfl, rfl⟩]
      obtain ⟨s1, s2, C', z1, z2, z3, z4, z5⟩ := ls47 (F := F) (by omega) hR h hm hM hQ (p0 := wp r 0) (x0 := (rd r 1).toNat) (by omega) 369 0 F true sNe (sA sNc (wp r 0) (rd r 1).toNat (Int32.ofInt 0)) (I0 (wp r 0) (rd r 1).toNat) (by omega) (by omega) (by
        intro p f hf
        unfold I0
        split <;> omega) (by
        intro p f hp hf
        by_cases e : p = wp r 0 ∧ f = (rd r 1).toNat
        · obtain ⟨rfl, rfl⟩ := e
          rw [i0]
          simp (disch := omega) only [sI_a, sI_b, sL_a, sL_b, sL_c, wA_a, wA_b, wA_c, wA_d, wB_a, wB_b, wB_c, wB_d, sA_w, sB_w, uN_s, uN_n, up_s, up_n, ul_s, ul_n, p_fst, p_snd]
          rfl
        · have : I0 (wp r 0) (rd r 1).toNat p f = 1000000000 := by unfold I0; rw [if_neg e]
          rw [this]
          by_cases e1 : p = wp r 0
          · subst e1
            simp (disch := omega) only [sI_a, sI_b, sL_a, sL_b, sL_c, wA_a, wA_b, wA_c, wA_d, wB_a, wB_b, wB_c, wB_d, sA_w, sB_w, uN_s, uN_n, up_s, up_n, ul_s, ul_n, p_fst, p_snd]
            exact hs _ f (by omega) hf
          · simp (disch := omega) only [sI_a, sI_b, sL_a, sL_b, sL_c, wA_a, wA_b, wA_c, wA_d, wB_a, wB_b, wB_c, wB_d, sA_w, sB_w, uN_s, uN_n, up_s, up_n, ul_s, ul_n, p_fst, p_snd]
            exact hs p f (by omega) hf) (fun q x _ => mono q x) (by rw [i0, m0]) (by
        right
        refine ⟨rfl, ?_⟩
        refine cnt_1 (v := 41 * wp r 0 + (rd r 1).toNat) ?_ (by omega)
        unfold fin'
        rw [show (41 * wp r 0 + (rd r 1).toNat) / 41 = wp r 0 by omega, show (41 * wp r 0 + (rd r 1).toNat) % 41 = (rd r 1).toNat by omega, i0, m0]
        rfl)
      have eq := AF_eq h hM hQ hc z3 (by omega) z4 z5
      have w9 := (wp_b h (i := (rd r 8).toNat - 1) (by omega)).1
      have mE : mnF (C' (wp r ((rd r 8).toNat - 1))) (nT r + 1) = mnF (M (wp r ((rd r 8).toNat - 1))) (nT r + 1) := by
        have : ∀ j, j ≤ nT r + 1 → mnF (C' (wp r ((rd r 8).toNat - 1))) j = mnF (M (wp r ((rd r 8).toNat - 1))) j := by
          intro j
          induction j with
          | zero => intro _; rfl
          | succ j ihj =>
            intro hj
            rw [mnF_s, mnF_s, ihj (by omega), eq _ j (by omega)]
        exact this _ (Nat.le_refl _)
      have l1 := ls121 (F := F) (sNe := s1) (sNc := s2) hR h mp z3 z2 (nT r + 1) 0 F (by omega) (by omega)
      rw [mE] at l1
      refine ⟨s1, s2, ?_⟩
      have z1' : f_X5_least_47 F sRo mp F (Int32.ofInt 1) (Int32.ofInt 0) sNe (sA sNc (wp r 0) (rd r 1).toNat (Int32.ofInt 0)) = _ := z1
      have l1' : f_X5_least_121 F sRo mp F (Int32.ofInt 268435456) (Int32.ofInt 0) s1 s2 = _ := l1
      rw [f_X5_least_2]
      simp (disch := omega) only [z_0, z_1, z_2, z_3, z_4, z_5, z_6, z_7, z_8, z_9, z_10, z_11, z_12, z_14, z_18, z_20, z_22, z_24, z_32, z_38, z_40, z_41, z_44, z_48, z_49, z_57, z_59, z_60, z_63, z_65, z_74, z_75, z_81, z_97, z_99, z_104, z_115, z_119, z_122, z_200, z_209, z_210, z_219, z_228, z_255, z_300, z_369, z_999, z_65537, z_268435456, z_1000000000, n_nat, n_add, n_sub, n_mul, n_neg, n_lt, n_le, n_eq, n_ix, n_gd, n_nz, lz_t, bd_some, tn, Int.reduceToNat, tn_1, if_pos, if_neg, if_true, if_false, q5, f_X5_least_27, f_X9_start, wR, q1, z1', f_X5_least_114, l1']
  | succ d ih =>
    intro k n sNe sNc hk hn hs
    cases n with
    | zero => omega
    | succ n =>
      obtain ⟨g, g1, g2, -⟩ := fillI (F := F) 41 (by omega) (by omega) (Int32.ofInt 268435456) (sNc.2.2.1 k)
      obtain ⟨s1, s2, z1⟩ := ih (k + 1) n sNe (wA sNc k g) (by omega) (by omega) (by
        intro p f hp hf
        by_cases e : p = k
        · subst e
          simp (disch := omega) only [sI_a, sI_b, sL_a, sL_b, sL_c, wA_a, wA_b, wA_c, wA_d, wB_a, wB_b, wB_c, wB_d, sA_w, sB_w, uN_s, uN_n, up_s, up_n, ul_s, ul_n, p_fst, p_snd]
          exact g2 f (by omega)
        · simp (disch := omega) only [sI_a, sI_b, sL_a, sL_b, sL_c, wA_a, wA_b, wA_c, wA_d, wB_a, wB_b, wB_c, wB_d, sA_w, sB_w, uN_s, uN_n, up_s, up_n, ul_s, ul_n, p_fst, p_snd]
          exact hs p f (by omega) hf)
      refine ⟨s1, s2, ?_⟩
      rw [f_X5_least_2]
      simp (disch := omega) only [z_0, z_1, z_2, z_3, z_4, z_5, z_6, z_7, z_8, z_9, z_10, z_11, z_12, z_14, z_18, z_20, z_22, z_24, z_32, z_38, z_40, z_41, z_44, z_48, z_49, z_57, z_59, z_60, z_63, z_65, z_74, z_75, z_81, z_97, z_99, z_104, z_115, z_119, z_122, z_200, z_209, z_210, z_219, z_228, z_255, z_300, z_369, z_999, z_65537, z_268435456, z_1000000000, n_nat, n_add, n_sub, n_mul, n_neg, n_lt, n_le, n_eq, n_ix, n_gd, n_nz, lz_t, bd_some, tn, Int.reduceToNat, tn_1, if_pos, if_neg, if_true, if_false, q5, g1]
      exact z1
