/-! plans by stops -/
def cW (l p s : Int) (n0 n1 : Nat → Int) (f n : Nat) : Int := if n = 0 then lM l n0 f else cR (lM l n1) p s f n
def stN (T : Nat) (o : Bool) (st f : Nat) : Nat := if o && decide (0 < st) then T - f else 0
def wR (r : Nat → Int32) : Nat → Nat → Nat → Int
  | 0, _, _ => 0
  | d + 1, st, f => cW (lg r ((rd r 8).toNat - 2 - d)) (rp r ((rd r 8).toNat - 2 - d)) (rd r 2) (wR r d st) (wR r d (st - 1)) f (minTo (cW (lg r ((rd r 8).toNat - 2 - d)) (rp r ((rd r 8).toNat - 2 - d)) (rd r 2) (wR r d st) (wR r d (st - 1)) f) (stN (rd r 0).toNat (decide (0 < rp r ((rd r 8).toNat - 2 - d))) st f))
theorem stN_le (T : Nat) (o : Bool) (st f : Nat) : stN T o st f ≤ T - f := by
  unfold stN
  split <;> omega
theorem cW_ok {T : Nat} {B : Int} {n0 n1 : Nat → Int} {l p s : Int} (hT : T ≤ 40) (h0 : okV T B n0) (h1 : okV T B n1) (hl : 0 ≤ l) (hp : 0 ≤ p) (hp2 : p ≤ 99) (hs : 0 ≤ s) (hs2 : s ≤ 99) {f n : Nat} (hn : f + n ≤ T) : cW l p s n0 n1 f n = 1000000000 ∨ (0 ≤ cW l p s n0 n1 f n ∧ cW l p s n0 n1 f n ≤ B + 4059) := by
  unfold cW
  by_cases c : n = 0
  · rw [if_pos c]
    rcases lM_ok hl h0 f (by omega) with q | q
    · exact Or.inl q
    · exact Or.inr (by omega)
  · rw [if_neg c]
    rcases cR_ok hT (lM_ok hl h1) hp hp2 hs hs2 hn with q | q
    · exact Or.inl q.1
    · exact Or.inr ⟨q.1, q.2.1⟩
theorem wR_ok {r : Nat → Int32} (h : ROK r) : ∀ d : Nat, (d : Int) < rd r 8 → ∀ st, okV (rd r 0).toNat (d * 4059) (wR r d st)
  | 0, _ => fun _ x _ => Or.inr ⟨Int.le_refl _, Int.le_refl _⟩
  | d + 1, hd => by
    obtain ⟨t, -, s2, -, -, -, s8, -⟩ := ROKb h
    intro st f hf
    have ih := wR_ok h d (by omega)
    have l := lg_c h (i := (rd r 8).toNat - 2 - d) (by omega)
    have p := rp_b h (i := (rd r 8).toNat - 2 - d) (by omega)
    have e : ((d + 1 : Nat) : Int) * 4059 = (d : Int) * 4059 + 4059 := by omega
    rw [e]
    unfold wR
    have m := minTo_le (cW (lg r ((rd r 8).toNat - 2 - d)) (rp r ((rd r 8).toNat - 2 - d)) (rd r 2) (wR r d st) (wR r d (st - 1)) f) (stN (rd r 0).toNat (decide (0 < rp r ((rd r 8).toNat - 2 - d))) st f)
    have m2 := stN_le (rd r 0).toNat (decide (0 < rp r ((rd r 8).toNat - 2 - d))) st f
    exact cW_ok (by omega) (ih st) (ih (st - 1)) (by omega) (by omega) (by omega) (by omega) (by omega) (by omega)
theorem lM_mono {l : Int} {a b : Nat → Int} {T : Nat} (hl : 0 ≤ l) (h : ∀ x, x ≤ T → a x ≤ b x) {x : Nat} (hx : x ≤ T) : lM l a x ≤ lM l b x := by
  unfold lM
  by_cases c : (x : Int) < l
  · rw [if_pos c, if_pos c]; exact Int.le_refl _
  · rw [if_neg c, if_neg c]; exact h _ (by omega)
theorem wR_mono {r : Nat → Int32} (h : ROK r) : ∀ d : Nat, (d : Int) < rd r 8 → ∀ st f : Nat, (f : Int) ≤ rd r 0 → wR r d (st + 1) f ≤ wR r d st f
  | 0, _ => fun _ _ _ => Int.le_refl _
  | d + 1, hd => by
    obtain ⟨t, -, s2, -, -, -, s8, -⟩ := ROKb h
    intro st f hf
    have ih := wR_mono h d (by omega)
    have ok := wR_ok h d (by omega)
    have l := lg_c h (i := (rd r 8).toNat - 2 - d) (by omega)
    have p := rp_b h (i := (rd r 8).toNat - 2 - d) (by omega)
    unfold wR
    generalize hn : minTo (cW (lg r ((rd r 8).toNat - 2 - d)) (rp r ((rd r 8).toNat - 2 - d)) (rd r 2) (wR r d st) (wR r d (st - 1)) f) (stN (rd r 0).toNat (decide (0 < rp r ((rd r 8).toNat - 2 - d))) st f) = n
    have m := minTo_le (cW (lg r ((rd r 8).toNat - 2 - d)) (rp r ((rd r 8).toNat - 2 - d)) (rd r 2) (wR r d st) (wR r d (st - 1)) f) (stN (rd r 0).toNat (decide (0 < rp r ((rd r 8).toNat - 2 - d))) st f)
    rw [hn] at m
    have m2 := stN_le (rd r 0).toNat (decide (0 < rp r ((rd r 8).toNat - 2 - d))) st f
    have m3 : stN (rd r 0).toNat (decide (0 < rp r ((rd r 8).toNat - 2 - d))) st f ≤ stN (rd r 0).toNat (decide (0 < rp r ((rd r 8).toNat - 2 - d))) (st + 1) f := by
      unfold stN
      by_cases c : 0 < rp r ((rd r 8).toNat - 2 - d)
      · simp [c]
        split <;> omega
      · simp [c]
    have a1 := minTo_min (cW (lg r ((rd r 8).toNat - 2 - d)) (rp r ((rd r 8).toNat - 2 - d)) (rd r 2) (wR r d (st + 1)) (wR r d (st + 1 - 1)) f) (stN (rd r 0).toNat (decide (0 < rp r ((rd r 8).toNat - 2 - d))) (st + 1) f) n (by omega)
    refine Int.le_trans a1 ?_
    unfold cW
    by_cases c : n = 0
    · rw [if_pos c, if_pos c]
      exact lM_mono (T := (rd r 0).toNat) (by omega) (fun x hx => ih st x (by omega)) (by omega)
    · rw [if_neg c, if_neg c]
      have hst : 0 < st := by
        rcases Nat.eq_zero_or_pos st with q | q
        · subst q
          have : stN (rd r 0).toNat (decide (0 < rp r ((rd r 8).toNat - 2 - d))) 0 f = 0 := by unfold stN; simp
          omega
        · exact q
      have e : st + 1 - 1 = (st - 1) + 1 := by omega
      rw [e]
      have mm := lM_mono (l := lg r ((rd r 8).toNat - 2 - d)) (T := (rd r 0).toNat) (a := wR r d (st - 1 + 1)) (b := wR r d (st - 1)) (by omega) (fun x hx => ih (st - 1) x (by omega)) (x := f + n) (by omega)
      rcases cR_ok (T := (rd r 0).toNat) (p := rp r ((rd r 8).toNat - 2 - d)) (s := rd r 2) (by omega) (lM_ok (l := lg r ((rd r 8).toNat - 2 - d)) (by omega) (ok (st - 1))) (by omega) (by omega) (by omega) (by omega) (f := f) (n := n) (by omega) with q | q
      · rcases cR_ok (T := (rd r 0).toNat) (p := rp r ((rd r 8).toNat - 2 - d)) (s := rd r 2) (by omega) (lM_ok (l := lg r ((rd r 8).toNat - 2 - d)) (by omega) (ok (st - 1 + 1))) (by omega) (by omega) (by omega) (by omega) (f := f) (n := n) (by omega) with z | z
        · omega
        · omega
      · rcases cR_ok (T := (rd r 0).toNat) (p := rp r ((rd r 8).toNat - 2 - d)) (s := rd r 2) (by omega) (lM_ok (l := lg r ((rd r 8).toNat - 2 - d)) (by omega) (ok (st - 1 + 1))) (by omega) (by omega) (by omega) (by omega) (f := f) (n := n) (by omega) with z | z
        · have := lM_ok (l := lg r ((rd r 8).toNat - 2 - d)) (by omega) (ok (st - 1)) (f + n) (by omega)
          omega
        · omega
/-! stopHere -/
theorem m_min (a b : Int) (h1 : -9223372036854775808 ≤ a) (h2 : a < 9223372036854775808) (h3 : -9223372036854775808 ≤ b) (h4 : b < 9223372036854775808) : (if Int64.ofInt a < Int64.ofInt b then Int64.ofInt a else Int64.ofInt b) = Int64.ofInt (min a b) := by
  rw [if_congr_c (m_lt a b h1 h2 h3 h4)]
  by_cases c : a < b
  · rw [if_pos c]; congr 1; omega
  · rw [if_neg c]; congr 1; omega
def stopS (T : Nat) (p s : Int) (lv0 lv1 : Nat → Int) (x : Nat) (w : Int) : Prop := w ≤ 1099511627776 ∧ w ≤ lv0 x ∧ (∀ y : Nat, x < y → y ≤ T → w ≤ s + p * ((y : Int) - x) + lv1 y) ∧ (w = 1099511627776 ∨ w = lv0 x ∨ ∃ y : Nat, y ≤ T ∧ (x < y ∨ (x = y ∧ y = T)) ∧ w = s + p * ((y : Int) - x) + lv1 y)
theorem stopHere_go {F : Nat} {sRo : MS} {T : Nat} {p s : Int} {lv0 lv1 : Nat → Int} (hT : T ≤ 40) (hp : 0 ≤ p) (hp2 : p ≤ 99) (e2 : sRo.1 2 = Int32.ofInt s) (hs : 0 ≤ s) (hs2 : s ≤ 99) (fq1 : Nat → Int64) (hf : ∀ x : Nat, x ≤ T → fq1 x = Int64.ofInt (lv1 x) ∧ 0 ≤ lv1 x ∧ lv1 x ≤ 1099511627776) (hv : ∀ x : Nat, x ≤ T → 0 ≤ lv0 x ∧ lv0 x ≤ 1099511627776) :
    ∀ (d b n : Nat) (g : Nat → Int64), d < n → d ≤ T + 1 → b ≤ T → (d = T + 1 → b = T) → (d ≤ T → d ≤ b ∧ (∀ x, d ≤ x → x ≤ T → lv1 b + p * (b : Int) ≤ lv1 x + p * (x : Int))) → (∀ x : Nat, x < d → g x = Int64.ofInt (lv0 x)) →
    ∃ g', f_X6_stopHere_12 F sRo 41 41 fq1 (Int32.ofInt p) n (Int32.ofInt (b : Int)) (Int32.ofInt ((d : Int) - 1)) g = some g' ∧ (∀ x : Nat, x < d → ∃ w, g' x = Int64.ofInt w ∧ stopS T p s lv0 lv1 x w) ∧ (∀ x : Nat, ¬ x < d → g' x = g x) := by
  intro d
  induction d with
  | zero =>
    intro b n g hn hd hb _ _ _
    cases n with
    | zero => omega
    | succ n =>
      refine ⟨g, ?_, fun x hx => by omega, fun _ _ => rfl⟩
      rw [f_X6_stopHere_12]
      simp (disch := omega) only [z_0, z_1, z_2, z_3, z_4, z_5, z_6, z_7, z_8, z_9, z_10, z_11, z_12, z_14, z_18, z_20, z_22, z_24, z_32, z_38, z_40, z_41, z_44, z_48, z_49, z_57, z_59, z_60, z_63, z_65, z_74, z_75, z_81, z_97, z_99, z_104, z_115, z_119, z_122, z_200, z_209, z_210, z_219, z_228, z_255, z_300, z_369, z_999, z_65537, z_268435456, z_1000000000, n_nat, n_add, n_sub, n_mul, n_neg, n_lt, n_le, n_eq, n_ix, n_gd, n_nz, lz_t, bd_some, tn, Int.reduceToNat, tn_1, if_pos, if_neg, if_true, if_false, sI_a, sI_b, sL_a, sL_b, sL_c, wA_a, wA_b, wA_c, wA_d, wB_a, wB_b, wB_c, wB_d, sA_w, sB_w, uN_s, uN_n, up_s, up_n, ul_s, ul_n, p_fst, p_snd, y_0, y_1, y_2, y_10, y_20, y_1099511627776, m_add, m_sub, m_mul, m_neg, m_lt, m_le, m_eq, m_of, m_nz, m_to, c_gt, c_ge, c_lt, c_le, c_eq]
  | succ d ih =>
    intro b n g hn hd hb hb1 hb2 hg
    cases n with
    | zero => omega
    | succ n =>
      have e1 : ((d + 1 : Nat) : Int) - 1 = d := by omega
      obtain ⟨fb, lb, lb2⟩ := hf b hb
      obtain ⟨fd, ld, ld2⟩ := hf d (by omega)
      obtain ⟨wd, wd2⟩ := hv d (by omega)
      obtain ⟨pb, pb2⟩ := mulb (x := b) hp (by omega)
      obtain ⟨pd, pd2⟩ := mulb (x := d) hp (by omega)
      have pbd : p * ((b : Int) - d) = p * b - p * d := Int.mul_sub p b d
      have hgd := hg d (by omega)
      have hbd : d ≤ b := by
        by_cases q : d = T
        · have := hb1 (by omega); omega
        · have := (hb2 (by omega)).1; omega
      have spec : stopS T p s lv0 lv1 d (min (min (s + p * ((b : Int) - d) + lv1 b) (lv0 d)) 1099511627776) := by
        refine ⟨by omega, by omega, ?_, ?_⟩
        · intro y hy1 hy2
          have := (hb2 (by omega)).2 y (by omega) hy2
          have hy : p * ((y : Int) - d) = p * y - p * d := Int.mul_sub p y d
          omega
        · by_cases z1 : min (min (s + p * ((b : Int) - d) + lv1 b) (lv0 d)) 1099511627776 = 1099511627776
          · exact Or.inl z1
          · by_cases z2 : min (min (s + p * ((b : Int) - d) + lv1 b) (lv0 d)) 1099511627776 = lv0 d
            · exact Or.inr (Or.inl z2)
            · refine Or.inr (Or.inr ⟨b, hb, ?_, by omega⟩)
              by_cases q : d = T
              · have := hb1 (by omega); omega
              · have := (hb2 (by omega)).1; omega
      have key : ∀ (g1 : Nat → Int64), (∀ x : Nat, x < d → g1 x = Int64.ofInt (lv0 x)) → ∃ g', (if lv1 b + p * (b : Int) ≤ lv1 d + p * (d : Int) then f_X6_stopHere_12 F sRo 41 41 fq1 (Int32.ofInt p) n (Int32.ofInt (b : Int)) (Int32.ofInt ((d : Int) + -1)) g1 else f_X6_stopHere_12 F sRo 41 41 fq1 (Int32.ofInt p) n (Int32.ofInt (d : Int)) (Int32.ofInt ((d : Int) + -1)) g1) = some g' ∧ (∀ x : Nat, x < d → ∃ w, g' x = Int64.ofInt w ∧ stopS T p s lv0 lv1 x w) ∧ (∀ x : Nat, ¬ x < d → g' x = g1 x) := by
        intro g1 hg1
        by_cases c : lv1 b + p * (b : Int) ≤ lv1 d + p * (d : Int)
        · rw [if_pos c]
          refine ih b n g1 (by omega) (by omega) hb (by omega) (fun _ => ⟨by omega, ?_⟩) hg1
          intro x h1 h2
          by_cases e : x = d
          · subst e; exact c
          · exact (hb2 (by omega)).2 x (by omega) h2
        · rw [if_neg c]
          refine ih d n g1 (by omega) (by omega) (by omega) (by omega) (fun _ => ⟨by omega, ?_⟩) hg1
          intro x h1 h2
          by_cases e : x = d
          · subst e; omega
          · have := (hb2 (by omega)).2 x (by omega) h2
            omega
      obtain ⟨g', k1, k2, k3⟩ := key (vp_updL g d (Int64.ofInt (min (min (s + p * ((b : Int) - d) + lv1 b) (lv0 d)) 1099511627776))) (fun x hx => by rw [ul_n _ _ _ _ (by omega)]; exact hg x (by omega))
      refine ⟨g', ?_, ?_, ?_⟩
      · rw [← k1, f_X6_stopHere_12, e1]
        by_cases c : lv1 b + p * (b : Int) ≤ lv1 d + p * (d : Int)
        · simp (disch := omega) only [f_X6_stopHere_88, z_0, z_1, z_2, z_3, z_4, z_5, z_6, z_7, z_8, z_9, z_10, z_11, z_12, z_14, z_18, z_20, z_22, z_24, z_32, z_38, z_40, z_41, z_44, z_48, z_49, z_57, z_59, z_60, z_63, z_65, z_74, z_75, z_81, z_97, z_99, z_104, z_115, z_119, z_122, z_200, z_209, z_210, z_219, z_228, z_255, z_300, z_369, z_999, z_65537, z_268435456, z_1000000000, y_0, y_1, y_2, y_10, y_20, y_1099511627776, n_nat, n_add, n_sub, n_mul, n_neg, n_lt, n_le, n_eq, n_ix, n_gd, lz_t, bd_some, tn, sI_a, sI_b, sL_a, sL_b, sL_c, wA_a, wA_b, wA_c, wA_d, wB_a, wB_b, wB_c, wB_d, sA_w, sB_w, uN_s, uN_n, up_s, up_n, ul_s, ul_n, p_fst, p_snd, m_add, m_sub, m_mul, m_of, m_min, c_ge, fb, fd, hgd, e2, if_pos, if_neg]
        · simp (disch := omega) only [f_X6_stopHere_88, z_0, z_1, z_2, z_3, z_4, z_5, z_6, z_7, z_8, z_9, z_10, z_11, z_12, z_14, z_18, z_20, z_22, z_24, z_32, z_38, z_40, z_41, z_44, z_48, z_49, z_57, z_59, z_60, z_63, z_65, z_74, z_75, z_81, z_97, z_99, z_104, z_115, z_119, z_122, z_200, z_209, z_210, z_219, z_228, z_255, z_300, z_369, z_999, z_65537, z_268435456, z_1000000000, y_0, y_1, y_2, y_10, y_20, y_1099511627776, n_nat, n_add, n_sub, n_mul, n_neg, n_lt, n_le, n_eq, n_ix, n_gd, lz_t, bd_some, tn, sI_a, sI_b, sL_a, sL_b, sL_c, wA_a, wA_b, wA_c, wA_d, wB_a, wB_b, wB_c, wB_d, sA_w, sB_w, uN_s, uN_n, up_s, up_n, ul_s, ul_n, p_fst, p_snd, m_add, m_sub, m_mul, m_of, m_min, c_ge, fb, fd, hgd, e2, if_pos, if_neg]
      · intro x hx
        by_cases e : x = d
        · subst e
          exact ⟨_, by rw [k3 x (by omega), ul_s], spec⟩
        · exact k2 x (by omega)
      · intro x hx
        rw [k3 x (by omega), ul_n _ _ _ _ (by omega)]
theorem stopS_e {T : Nat} {B : Int} {n0 n1 : Nat → Int} {l p s : Int} (hT : T ≤ 40) (hB : B ≤ 100000) (h0 : okV T B n0) (h1 : okV T B n1) (hm : ∀ x, x ≤ T → n0 x ≤ n1 x) (hl : 0 ≤ l) (hp : 0 ≤ p) (hp2 : p ≤ 99) (hs : 0 ≤ s) (hs2 : s ≤ 99) {f : Nat} (hf : f ≤ T) {w : Int} (hw : stopS T p s (fun x => cM (lM l n0 x)) (fun x => cM (lM l n1 x)) f w) : w = cM (cW l p s n0 n1 f (minTo (cW l p s n0 n1 f) (T - f))) := by
  obtain ⟨w1, w2, w3, w4⟩ := hw
  have k0 := lM_ok (l := l) hl h0
  have k1 := lM_ok (l := l) hl h1
  have u0 := minTo_le (cW l p s n0 n1 f) (T - f)
  have u1 := minTo_min (cW l p s n0 n1 f) (T - f)
  have mT := lM_mono (l := l) hl hm (x := T) (by omega)
  have kT0 := k0 T (by omega)
  have kT1 := k1 T (by omega)
  have cMe : ∀ v : Int, (v = 1000000000 ∧ cM v = 1099511627776) ∨ (v ≠ 1000000000 ∧ cM v = v) := by
    intro v
    unfold cM
    by_cases c : v = 1000000000
    · exact Or.inl ⟨c, by rw [if_pos c]⟩
    · exact Or.inr ⟨c, by rw [if_neg c]⟩
  have c0 : cW l p s n0 n1 f 0 = lM l n0 f := by unfold cW; rw [if_pos rfl]
  have cn : ∀ n, n ≠ 0 → cW l p s n0 n1 f n = cR (lM l n1) p s f n := by intro n hn; unfold cW; rw [if_neg hn]
  have cand : ∀ y : Nat, f < y → y ≤ T → (cW l p s n0 n1 f (y - f) = 1000000000 ∧ lM l n1 y = 1000000000) ∨ (cW l p s n0 n1 f (y - f) < 1000000000 ∧ lM l n1 y ≠ 1000000000 ∧ s + p * ((y : Int) - f) + lM l n1 y = cW l p s n0 n1 f (y - f)) := by
    intro y hy1 hy2
    have e : f + (y - f) = y := by omega
    rw [cn (y - f) (by omega)]
    rcases cR_ok hT k1 hp hp2 hs hs2 (f := f) (n := y - f) (by omega) with q | q
    · rw [e] at q; exact Or.inl q
    · rw [e, if_neg (by omega)] at q
      refine Or.inr ⟨by omega, q.2.2.1, ?_⟩
      rw [q.2.2.2, show ((y - f : Nat) : Int) = (y : Int) - f by omega, Int.mul_comm p]
      omega
  have pn : ∀ y : Nat, f ≤ y → y ≤ T → 0 ≤ p * ((y : Int) - f) := fun y h1 _ => Int.mul_nonneg hp (by omega)
  rcases cMe (cW l p s n0 n1 f (minTo (cW l p s n0 n1 f) (T - f))) with ⟨q, q'⟩ | ⟨q, q'⟩
  · rw [q']
    have all : ∀ n, n ≤ T - f → cW l p s n0 n1 f n = 1000000000 := by
      intro n hn
      have := u1 n hn
      rcases cW_ok hT h0 h1 hl hp hp2 hs hs2 (f := f) (n := n) (by omega) with z | z <;> omega
    have z0 := all 0 (by omega)
    rw [c0] at z0
    rcases w4 with z | z | ⟨y, y1, y2, y3⟩
    · exact z
    · rw [z]
      show cM (lM l n0 f) = _
      rw [z0]; rfl
    · have hpn := pn y (by omega) y1
      have : cM (lM l n1 y) = 1099511627776 := by
        rcases y2 with y2 | y2
        · rcases cand y y2 y1 with g | g
          · rw [g.2]; rfl
          · have := all (y - f) (by omega); omega
        · rw [show f = T by omega] at z0
          rw [y2.2, show lM l n1 T = 1000000000 by omega]; rfl
      have y3' : w = s + p * ((y : Int) - f) + cM (lM l n1 y) := y3
      omega
  · rw [q']
    have hV : 0 ≤ cW l p s n0 n1 f (minTo (cW l p s n0 n1 f) (T - f)) ∧ cW l p s n0 n1 f (minTo (cW l p s n0 n1 f) (T - f)) ≤ 200000 := by
      rcases cW_ok hT h0 h1 hl hp hp2 hs hs2 (f := f) (n := minTo (cW l p s n0 n1 f) (T - f)) (by omega) with z | z <;> omega
    have up : w ≤ cW l p s n0 n1 f (minTo (cW l p s n0 n1 f) (T - f)) := by
      by_cases z : minTo (cW l p s n0 n1 f) (T - f) = 0
      · rw [z, c0] at q ⊢
        rcases cMe (lM l n0 f) with g | g
        · exact absurd g.1 q
        · have w2' : w ≤ cM (lM l n0 f) := w2
          omega
      · rcases cand (f + minTo (cW l p s n0 n1 f) (T - f)) (by omega) (by omega) with g | g
        · rw [Nat.add_sub_cancel_left] at g
          exact absurd g.1 q
        · rw [Nat.add_sub_cancel_left] at g
          have := w3 (f + minTo (cW l p s n0 n1 f) (T - f)) (by omega) (by omega)
          rcases cMe (lM l n1 (f + minTo (cW l p s n0 n1 f) (T - f))) with g2 | g2
          · exact absurd g2.1 g.2.1
          · have w3' : w ≤ s + p * (((f + minTo (cW l p s n0 n1 f) (T - f) : Nat) : Int) - f) + cM (lM l n1 (f + minTo (cW l p s n0 n1 f) (T - f))) := this
            omega
    have lo : cW l p s n0 n1 f (minTo (cW l p s n0 n1 f) (T - f)) ≤ w := by
      rcases w4 with z | z | ⟨y, y1, y2, y3⟩
      · omega
      · have z' : w = cM (lM l n0 f) := z
        have := u1 0 (by omega)
        rw [c0] at this
        rcases cMe (lM l n0 f) with g | g <;> omega
      · have hpn := pn y (by omega) y1
        have y3' : w = s + p * ((y : Int) - f) + cM (lM l n1 y) := y3
        rcases cMe (lM l n1 y) with g | g
        · omega
        · rcases y2 with y2 | y2
          · rcases cand y y2 y1 with g2 | g2
            · exact absurd g2.2 g.1
            · have := u1 (y - f) (by omega)
              omega
          · have := u1 0 (by omega)
            rw [c0] at this
            have k : lM l n0 f = lM l n0 T := by rw [show f = T by omega]
            have k2 : lM l n1 y = lM l n1 T := by rw [y2.2]
            omega
    omega
