/-! plans: the reference's step and the class's -/
def lM (l : Int) (nx : Nat → Int) (x : Nat) : Int := if (x : Int) < l then 1000000000 else nx (x - l.toNat)
def cR (lv : Nat → Int) (p s : Int) (f n : Nat) : Int := if lv (f + n) = 1000000000 then 1000000000 else lv (f + n) + (if n = 0 then 0 else (n : Int) * p + s)
def stepB (T : Nat) (l p s : Int) (o : Bool) (nx : Nat → Int) (f : Nat) : Nat := minTo (cR (lM l nx) p s f) (if o then T - f else 0)
def stepV (T : Nat) (l p s : Int) (o : Bool) (nx : Nat → Int) (f : Nat) : Int := cR (lM l nx) p s f (stepB T l p s o nx f)
def okV (T : Nat) (B : Int) (nx : Nat → Int) : Prop := ∀ x : Nat, x ≤ T → nx x = 1000000000 ∨ (0 ≤ nx x ∧ nx x ≤ B)
def cM (v : Int) : Int := if v = 1000000000 then 1099511627776 else v
theorem stepB_le (T : Nat) (l p s : Int) (o : Bool) (nx : Nat → Int) (f : Nat) : stepB T l p s o nx f ≤ T - f := by
  unfold stepB
  have := minTo_le (cR (lM l nx) p s f) (if o then T - f else 0)
  cases o <;> simp at this ⊢ <;> omega
theorem lM_ok {T : Nat} {B : Int} {nx : Nat → Int} {l : Int} (hl : 0 ≤ l) (h : okV T B nx) : okV T B (lM l nx) := by
  intro x hx
  unfold lM
  by_cases c : (x : Int) < l
  · rw [if_pos c]; exact Or.inl rfl
  · rw [if_neg c]; exact h _ (by omega)
theorem mulc {p : Int} {x : Nat} (hp : 0 ≤ p) (hp2 : p ≤ 99) (hx : x ≤ 40) : 0 ≤ (x : Int) * p ∧ (x : Int) * p ≤ 3960 := by
  have h := mulb (p := p) (x := x) hp hx
  rw [Int.mul_comm]
  omega
theorem cR_ok {T : Nat} {B : Int} {lv : Nat → Int} {p s : Int} (hT : T ≤ 40) (h : okV T B lv) (hp : 0 ≤ p) (hp2 : p ≤ 99) (hs : 0 ≤ s) (hs2 : s ≤ 99) {f n : Nat} (hn : f + n ≤ T) : (cR lv p s f n = 1000000000 ∧ lv (f + n) = 1000000000) ∨ (0 ≤ cR lv p s f n ∧ cR lv p s f n ≤ B + 4059 ∧ lv (f + n) ≠ 1000000000 ∧ cR lv p s f n = lv (f + n) + (n : Int) * p + (if n = 0 then 0 else s)) := by
  have m := mulc (x := n) hp hp2 (by omega)
  unfold cR
  by_cases c : lv (f + n) = 1000000000
  · rw [if_pos c]; exact Or.inl ⟨rfl, c⟩
  · rw [if_neg c]
    rcases h (f + n) hn with q | q
    · exact absurd q c
    · right
      by_cases e : n = 0
      · subst e
        rw [if_pos rfl, if_pos rfl]
        omega
      · rw [if_neg e, if_neg e]
        omega
theorem stepV_ok {T : Nat} {B : Int} {nx : Nat → Int} {l p s : Int} {o : Bool} (hT : T ≤ 40) (h : okV T B nx) (hl : 0 ≤ l) (hp : 0 ≤ p) (hp2 : p ≤ 99) (hs : 0 ≤ s) (hs2 : s ≤ 99) : okV T (B + 4059) (stepV T l p s o nx) := by
  intro f hf
  unfold stepV
  have := stepB_le T l p s o nx f
  rcases cR_ok hT (lM_ok hl h) hp hp2 hs hs2 (f := f) (n := stepB T l p s o nx f) (by omega) with q | q
  · exact Or.inl q.1
  · exact Or.inr ⟨q.1, q.2.1⟩
/-- the class's step is the reference's -/
theorem step_cls {T : Nat} {B : Int} {nx : Nat → Int} {l p s : Int} (hT : T ≤ 40) (hB : B ≤ 100000) (h : okV T B nx) (hl : 0 ≤ l) (hp : 0 ≤ p) (hp2 : p ≤ 99) (hs : 0 ≤ s) (hs2 : s ≤ 99) {f : Nat} (hf : f ≤ T) {lv' : Nat → Int} (hv : ∀ x, x ≤ T → lv' x = cM (lM l nx x)) :
    cC lv' p s f (minTo (cC lv' p s f) (T - f)) = cM (stepV T l p s true nx f) ∧ (stepV T l p s true nx f ≠ 1000000000 → minTo (cC lv' p s f) (T - f) = stepB T l p s true nx f) := by
  have hk := lM_ok (l := l) hl h
  have e0 : stepB T l p s true nx f = minTo (cR (lM l nx) p s f) (T - f) := by unfold stepB; rw [if_pos rfl]
  have b1 := stepB_le T l p s true nx f
  -- one candidate
  have cand : ∀ n, f + n ≤ T → (cR (lM l nx) p s f n = 1000000000 ∧ 1099511627776 ≤ cC lv' p s f n) ∨ (cR (lM l nx) p s f n < 1000000000 ∧ cC lv' p s f n = cR (lM l nx) p s f n) := by
    intro n hn
    have m := mulc (x := n) hp hp2 (by omega)
    have mm : p * (n : Int) = (n : Int) * p := Int.mul_comm _ _
    rcases cR_ok hT hk hp hp2 hs hs2 hn with q | q
    · left
      refine ⟨q.1, ?_⟩
      unfold cC
      rw [hv _ hn, q.2]
      have : cM 1000000000 = 1099511627776 := rfl
      rw [this]
      split <;> omega
    · right
      refine ⟨by omega, ?_⟩
      unfold cC
      rw [hv _ hn, q.2.2.2]
      unfold cM
      rw [if_neg q.2.2.1]
      omega
  have u1 := minTo_min (cR (lM l nx) p s f) (T - f)
  have u2 := minTo_first (cR (lM l nx) p s f) (T - f)
  rw [← e0] at u1 u2
  unfold stepV
  by_cases c : cR (lM l nx) p s f (stepB T l p s true nx f) = 1000000000
  · refine ⟨?_, fun q => absurd c q⟩
    rw [c]
    have w0 := minTo_le (cC lv' p s f) (T - f)
    have w1 := minTo_min (cC lv' p s f) (T - f) 0 (by omega)
    have all : ∀ n, n ≤ T - f → cR (lM l nx) p s f n = 1000000000 := by
      intro n hn
      have := u1 n hn
      rcases cand n (by omega) with q | q
      · exact q.1
      · omega
    have c0 : cC lv' p s f 0 = 1099511627776 := by
      unfold cC
      rcases cR_ok hT hk hp hp2 hs hs2 (f := f) (n := 0) (by omega) with q | q
      · rw [hv _ (by omega), q.2]; simp [cM]
      · have := all 0 (by omega); omega
    rcases cand (minTo (cC lv' p s f) (T - f)) (by omega) with q | q
    · have : cM 1000000000 = 1099511627776 := rfl
      omega
    · have := all _ w0; omega
  · have hlt : cR (lM l nx) p s f (stepB T l p s true nx f) < 1000000000 ∧ cC lv' p s f (stepB T l p s true nx f) = cR (lM l nx) p s f (stepB T l p s true nx f) := by
      rcases cand (stepB T l p s true nx f) (by omega) with q | q
      · exact absurd q.1 c
      · exact q
    have e : minTo (cC lv' p s f) (T - f) = stepB T l p s true nx f := by
      refine minTo_u _ _ _ b1 ?_ ?_
      · intro k hk
        have := u1 k hk
        rcases cand k (by omega) with q | q <;> omega
      · intro k hk
        have := u2 k hk
        rcases cand k (by omega) with q | q <;> omega
    refine ⟨?_, fun _ => e⟩
    rw [e, hlt.2]
    unfold cM
    rw [if_neg c]
theorem step_shut {T : Nat} {nx : Nat → Int} {l p s : Int} (f : Nat) : stepV T l p s false nx f = lM l nx f ∧ stepB T l p s false nx f = 0 := by
  unfold stepV stepB
  simp [minTo, cR]
  intro h
  exact h.symm
/-! the whole road -/
def vR (r : Nat → Int32) (q : Bool) (sh : Int) : Nat → Nat → Int
  | 0, _ => 0
  | d + 1, f => stepV (rd r 0).toNat (lg r ((rd r 8).toNat - 2 - d)) (if q then 0 else rp r ((rd r 8).toNat - 2 - d)) (if q then 1 else rd r 2) (decide (0 < rp r ((rd r 8).toNat - 2 - d)) && !decide ((((rd r 8).toNat - 2 - d : Nat) : Int) = sh)) (vR r q sh d) f
def bR (r : Nat → Int32) (q : Bool) (sh : Int) (d f : Nat) : Nat := stepB (rd r 0).toNat (lg r ((rd r 8).toNat - 2 - d)) (if q then 0 else rp r ((rd r 8).toNat - 2 - d)) (if q then 1 else rd r 2) (decide (0 < rp r ((rd r 8).toNat - 2 - d)) && !decide ((((rd r 8).toNat - 2 - d : Nat) : Int) = sh)) (vR r q sh d) f
theorem vR_ok {r : Nat → Int32} (h : ROK r) (q : Bool) (sh : Int) : ∀ d : Nat, (d : Int) < rd r 8 → okV (rd r 0).toNat (d * 4059) (vR r q sh d)
  | 0, _ => fun x _ => Or.inr ⟨Int.le_refl _, Int.le_refl _⟩
  | d + 1, hd => by
    obtain ⟨t, -, s2, -, -, -, s8, -⟩ := ROKb h
    have ih := vR_ok h q sh d (by omega)
    have l := lg_c h (i := (rd r 8).toNat - 2 - d) (by omega)
    have p := rp_b h (i := (rd r 8).toNat - 2 - d) (by omega)
    have e : ((d + 1 : Nat) : Int) * 4059 = (d : Int) * 4059 + 4059 := by omega
    rw [e]
    exact stepV_ok (by omega) ih (by omega) (by split <;> omega) (by split <;> omega) (by split <;> omega) (by split <;> omega)
/-! fill of a row of longs, of ints -/
theorem fillL_go {F : Nat} (N : Nat) (hN : N ≤ 1000) (v : Int64) : ∀ (d k n : Nat) (g : Nat → Int64), k + d = N → d < n → (∀ x, x < k → g x = v) → ∃ g', f_J7_fill_d0a16_6 F N v n (Int32.ofInt (k : Int)) (Int32.ofInt (N : Int)) g = some g' ∧ (∀ x, x < N → g' x = v) ∧ (∀ x, ¬ x < N → g' x = g x) := by
  intro d
  induction d with
  | zero =>
    intro k n g hk hn hg
    cases n with
    | zero => omega
    | succ n =>
      refine ⟨g, ?_, fun x hx => hg x (by omega), fun _ _ => rfl⟩
      rw [f_J7_fill_d0a16_6]
      simp (disch := omega) only [z_0, z_1, z_2, z_3, z_4, z_5, z_6, z_7, z_8, z_9, z_10, z_11, z_12, z_14, z_18, z_20, z_22, z_24, z_32, z_38, z_40, z_41, z_44, z_48, z_49, z_57, z_59, z_60, z_63, z_65, z_74, z_75, z_81, z_97, z_99, z_104, z_115, z_119, z_122, z_200, z_209, z_210, z_219, z_228, z_255, z_300, z_369, z_999, z_65537, z_268435456, z_1000000000, n_nat, n_add, n_sub, n_mul, n_neg, n_lt, n_le, n_eq, n_ix, n_gd, n_nz, lz_t, bd_some, tn, Int.reduceToNat, tn_1, if_pos, if_neg, if_true, if_false, sI_a, sI_b, sL_a, sL_b, sL_c, wA_a, wA_b, wA_c, wA_d, wB_a, wB_b, wB_c, wB_d, sA_w, sB_w, uN_s, uN_n, up_s, up_n, ul_s, ul_n, p_fst, p_snd]
  | succ d ih =>
    intro k n g hk hn hg
    cases n with
    | zero => omega
    | succ n =>
      obtain ⟨g', h1, h2, h3⟩ := ih (k + 1) n (vp_updL g k v) (by omega) (by omega) (fun x hx => by
        by_cases e : x = k
        · subst e; rw [ul_s]
        · rw [ul_n _ _ _ _ e]; exact hg x (by omega))
      refine ⟨g', ?_, h2, fun x hx => by rw [h3 x hx, ul_n _ _ _ _ (by omega)]⟩
      rw [f_J7_fill_d0a16_6]
      simp (disch := omega) only [z_0, z_1, z_2, z_3, z_4, z_5, z_6, z_7, z_8, z_9, z_10, z_11, z_12, z_14, z_18, z_20, z_22, z_24, z_32, z_38, z_40, z_41, z_44, z_48, z_49, z_57, z_59, z_60, z_63, z_65, z_74, z_75, z_81, z_97, z_99, z_104, z_115, z_119, z_122, z_200, z_209, z_210, z_219, z_228, z_255, z_300, z_369, z_999, z_65537, z_268435456, z_1000000000, n_nat, n_add, n_sub, n_mul, n_neg, n_lt, n_le, n_eq, n_ix, n_gd, n_nz, lz_t, bd_some, tn, Int.reduceToNat, tn_1, if_pos, if_neg, if_true, if_false, sI_a, sI_b, sL_a, sL_b, sL_c, wA_a, wA_b, wA_c, wA_d, wB_a, wB_b, wB_c, wB_d, sA_w, sB_w, uN_s, uN_n, up_s, up_n, ul_s, ul_n, p_fst, p_snd]
      exact h1
theorem fillL {F : Nat} (hF : 100 ≤ F) (v : Int64) (g : Nat → Int64) : ∃ g', f_J7_fill_d0a16 F 41 v g = some g' ∧ (∀ x, x < 41 → g' x = v) ∧ (∀ x, ¬ x < 41 → g' x = g x) := fillL_go 41 (by omega) v 41 0 F g rfl (by omega) (fun x hx => by omega)
theorem fillI_go {F : Nat} (N : Nat) (hN : N ≤ 1000) (v : Int32) : ∀ (d k n : Nat) (g : Nat → Int32), k + d = N → d < n → (∀ x, x < k → g x = v) → ∃ g', f_J7_fill_53178_5 F N v n (Int32.ofInt (k : Int)) (Int32.ofInt (N : Int)) g = some g' ∧ (∀ x, x < N → g' x = v) ∧ (∀ x, ¬ x < N → g' x = g x) := by
  intro d
  induction d with
  | zero =>
    intro k n g hk hn hg
    cases n with
    | zero => omega
    | succ n =>
      refine ⟨g, ?_, fun x hx => hg x (by omega), fun _ _ => rfl⟩
      rw [f_J7_fill_53178_5]
      simp (disch := omega) only [z_0, z_1, z_2, z_3, z_4, z_5, z_6, z_7, z_8, z_9, z_10, z_11, z_12, z_14, z_18, z_20, z_22, z_24, z_32, z_38, z_40, z_41, z_44, z_48, z_49, z_57, z_59, z_60, z_63, z_65, z_74, z_75, z_81, z_97, z_99, z_104, z_115, z_119, z_122, z_200, z_209, z_210, z_219, z_228, z_255, z_300, z_369, z_999, z_65537, z_268435456, z_1000000000, n_nat, n_add, n_sub, n_mul, n_neg, n_lt, n_le, n_eq, n_ix, n_gd, n_nz, lz_t, bd_some, tn, Int.reduceToNat, tn_1, if_pos, if_neg, if_true, if_false, sI_a, sI_b, sL_a, sL_b, sL_c, wA_a, wA_b, wA_c, wA_d, wB_a, wB_b, wB_c, wB_d, sA_w, sB_w, uN_s, uN_n, up_s, up_n, ul_s, ul_n, p_fst, p_snd]
  | succ d ih =>
    intro k n g hk hn hg
    cases n with
    | zero => omega
    | succ n =>
      obtain ⟨g', h1, h2, h3⟩ := ih (k + 1) n (upd g k v) (by omega) (by omega) (fun x hx => by
        by_cases e : x = k
        · subst e; rw [up_s]
        · rw [up_n _ _ _ _ e]; exact hg x (by omega))
      refine ⟨g', ?_, h2, fun x hx => by rw [h3 x hx, up_n _ _ _ _ (by omega)]⟩
      rw [f_J7_fill_53178_5]
      simp (disch := omega) only [z_0, z_1, z_2, z_3, z_4, z_5, z_6, z_7, z_8, z_9, z_10, z_11, z_12, z_14, z_18, z_20, z_22, z_24, z_32, z_38, z_40, z_41, z_44, z_48, z_49, z_57, z_59, z_60, z_63, z_65, z_74, z_75, z_81, z_97, z_99, z_104, z_115, z_119, z_122, z_200, z_209, z_210, z_219, z_228, z_255, z_300, z_369, z_999, z_65537, z_268435456, z_1000000000, n_nat, n_add, n_sub, n_mul, n_neg, n_lt, n_le, n_eq, n_ix, n_gd, n_nz, lz_t, bd_some, tn, Int.reduceToNat, tn_1, if_pos, if_neg, if_true, if_false, sI_a, sI_b, sL_a, sL_b, sL_c, wA_a, wA_b, wA_c, wA_d, wB_a, wB_b, wB_c, wB_d, sA_w, sB_w, uN_s, uN_n, up_s, up_n, ul_s, ul_n, p_fst, p_snd]
      exact h1
theorem fillI {F : Nat} (N : Nat) (hN : N ≤ 1000) (hF : 1001 ≤ F) (v : Int32) (g : Nat → Int32) : ∃ g', f_J7_fill_53178 F N v g = some g' ∧ (∀ x, x < N → g' x = v) ∧ (∀ x, ¬ x < N → g' x = g x) := fillI_go N hN v N 0 F g (by omega) (by omega) (fun x hx => by omega)
/-! Levels.spend, buyBest, buyNothing -/
theorem spend_e {F : Nat} {fq : Nat → Int64} {lv : Nat → Int} {p s : Int} {f n : Nat} (hn : f + n ≤ 40) (hq : fq (f + n) = Int64.ofInt (lv (f + n))) : f_X4_spend F 41 fq (Int32.ofInt (f : Int)) (Int32.ofInt ((f + n : Nat) : Int)) (Int64.ofInt p) (Int64.ofInt s) = some (Int64.ofInt (cC lv p s f n)) := by
  have e1 : ((f + n : Nat) : Int) - (f : Int) = n := by omega
  unfold f_X4_spend cC
  by_cases c : n = 0
  · subst c
    simp (disch := omega) only [z_0, z_1, z_2, z_3, z_4, z_5, z_6, z_7, z_8, z_9, z_10, z_11, z_12, z_14, z_18, z_20, z_22, z_24, z_32, z_38, z_40, z_41, z_44, z_48, z_49, z_57, z_59, z_60, z_63, z_65, z_74, z_75, z_81, z_97, z_99, z_104, z_115, z_119, z_122, z_200, z_209, z_210, z_219, z_228, z_255, z_300, z_369, z_999, z_65537, z_268435456, z_1000000000, n_nat, n_add, n_sub, n_mul, n_neg, n_lt, n_le, n_eq, n_ix, n_gd, n_nz, lz_t, bd_some, tn, Int.reduceToNat, tn_1, if_pos, if_neg, if_true, if_false, sI_a, sI_b, sL_a, sL_b, sL_c, wA_a, wA_b, wA_c, wA_d, wB_a, wB_b, wB_c, wB_d, sA_w, sB_w, uN_s, uN_n, up_s, up_n, ul_s, ul_n, p_fst, p_snd, y_0, y_1, y_2, y_10, y_20, y_1099511627776, m_add, m_sub, m_mul, m_neg, m_lt, m_le, m_eq, m_of, m_nz, m_to, c_gt, c_ge, c_lt, c_le, c_eq, e1, hq]
  · simp (disch := omega) only [z_0, z_1, z_2, z_3, z_4, z_5, z_6, z_7, z_8, z_9, z_10, z_11, z_12, z_14, z_18, z_20, z_22, z_24, z_32, z_38, z_40, z_41, z_44, z_48, z_49, z_57, z_59, z_60, z_63, z_65, z_74, z_75, z_81, z_97, z_99, z_104, z_115, z_119, z_122, z_200, z_209, z_210, z_219, z_228, z_255, z_300, z_369, z_999, z_65537, z_268435456, z_1000000000, n_nat, n_add, n_sub, n_mul, n_neg, n_lt, n_le, n_eq, n_ix, n_gd, n_nz, lz_t, bd_some, tn, Int.reduceToNat, tn_1, if_pos, if_neg, if_true, if_false, sI_a, sI_b, sL_a, sL_b, sL_c, wA_a, wA_b, wA_c, wA_d, wB_a, wB_b, wB_c, wB_d, sA_w, sB_w, uN_s, uN_n, up_s, up_n, ul_s, ul_n, p_fst, p_snd, y_0, y_1, y_2, y_10, y_20, y_1099511627776, m_add, m_sub, m_mul, m_neg, m_lt, m_le, m_eq, m_of, m_nz, m_to, c_gt, c_ge, c_lt, c_le, c_eq, e1, hq]
theorem buyBest_go {F : Nat} {sRo : MS} {T : Nat} (p s : Int) (p2 : Int32) (lv : Nat → Int) (ch : Nat → Nat) (fq0 : Nat → Int32) (hT : T ≤ 40) (e0 : sRo.1 0 = Int32.ofInt (T : Int)) (e2 : sRo.1 2 = Int32.ofInt s) (hs : 0 ≤ s) (hs2 : s ≤ 99) (hp : 0 ≤ p) (hp2 : p ≤ 99) (hch : ∀ x, x ≤ T → fq0 x = Int32.ofInt ((x + ch x : Nat) : Int) ∧ x + ch x ≤ T) :
    ∀ (d k n : Nat) (sPl : MS), k + d = T + 1 → d < n → (∀ x, k ≤ x → x ≤ T → sPl.2.2.2 1 x = Int64.ofInt (lv x)) →
    ∃ g, f_X6_buyBest_31 F sRo 41 p2 n (Int32.ofInt p) (Int32.ofInt (k : Int)) sPl fq0 = some (wB sPl 1 g, fq0) ∧ (∀ x, k ≤ x → x ≤ T → g x = Int64.ofInt (cC lv p s x (ch x))) ∧ (∀ x, x < k → g x = sPl.2.2.2 1 x) := by
  intro d
  induction d with
  | zero =>
    intro k n sPl hk hn hv
    cases n with
    | zero => omega
    | succ n =>
      refine ⟨sPl.2.2.2 1, ?_, fun x h1 h2 => by omega, fun _ _ => rfl⟩
      have e : wB sPl 1 (sPl.2.2.2 1) = sPl := by
        obtain ⟨a, b, c, e⟩ := sPl
        show (a, b, c, uN e 1 (e 1)) = (a, b, c, e)
        congr 3
        funext j
        by_cases q : j = 1
        · subst q; rw [uN_s]
        · rw [uN_n _ _ _ _ q]
      rw [e, f_X6_buyBest_31]
      simp (disch := omega) only [z_0, z_1, z_2, z_3, z_4, z_5, z_6, z_7, z_8, z_9, z_10, z_11, z_12, z_14, z_18, z_20, z_22, z_24, z_32, z_38, z_40, z_41, z_44, z_48, z_49, z_57, z_59, z_60, z_63, z_65, z_74, z_75, z_81, z_97, z_99, z_104, z_115, z_119, z_122, z_200, z_209, z_210, z_219, z_228, z_255, z_300, z_369, z_999, z_65537, z_268435456, z_1000000000, n_nat, n_add, n_sub, n_mul, n_neg, n_lt, n_le, n_eq, n_ix, n_gd, n_nz, lz_t, bd_some, tn, Int.reduceToNat, tn_1, if_pos, if_neg, if_true, if_false, sI_a, sI_b, sL_a, sL_b, sL_c, wA_a, wA_b, wA_c, wA_d, wB_a, wB_b, wB_c, wB_d, sA_w, sB_w, uN_s, uN_n, up_s, up_n, ul_s, ul_n, p_fst, p_snd, e0]
  | succ d ih =>
    intro k n sPl hk hn hv
    cases n with
    | zero => omega
    | succ n =>
      obtain ⟨c1, c2⟩ := hch k (by omega)
      have hsp := spend_e (F := F) (fq := sPl.2.2.2 1) (lv := lv) (p := p) (s := s) (f := k) (n := ch k) (by omega) (hv _ (by omega) c2)
      obtain ⟨g, g1, g2, g3⟩ := ih (k + 1) n (sB sPl 1 k (Int64.ofInt (cC lv p s k (ch k)))) (by omega) (by omega) (fun x h1 h2 => by
        simp (disch := omega) only [sI_a, sI_b, sL_a, sL_b, sL_c, wA_a, wA_b, wA_c, wA_d, wB_a, wB_b, wB_c, wB_d, sA_w, sB_w, uN_s, uN_n, up_s, up_n, ul_s, ul_n, p_fst, p_snd]
        exact hv x (by omega) h2)
      refine ⟨g, ?_, ?_, ?_⟩
      · rw [f_X6_buyBest_31]
        simp (disch := omega) only [z_0, z_1, z_2, z_3, z_4, z_5, z_6, z_7, z_8, z_9, z_10, z_11, z_12, z_14, z_18, z_20, z_22, z_24, z_32, z_38, z_40, z_41, z_44, z_48, z_49, z_57, z_59, z_60, z_63, z_65, z_74, z_75, z_81, z_97, z_99, z_104, z_115, z_119, z_122, z_200, z_209, z_210, z_219, z_228, z_255, z_300, z_369, z_999, z_65537, z_268435456, z_1000000000, n_nat, n_add, n_sub, n_mul, n_neg, n_lt, n_le, n_eq, n_ix, n_gd, n_nz, lz_t, bd_some, tn, Int.reduceToNat, tn_1, if_pos, if_neg, if_true, if_false, sI_a, sI_b, sL_a, sL_b, sL_c, wA_a, wA_b, wA_c, wA_d, wB_a, wB_b, wB_c, wB_d, sA_w, sB_w, uN_s, uN_n, up_s, up_n, ul_s, ul_n, p_fst, p_snd, y_0, y_1, y_2, y_10, y_20, y_1099511627776, m_add, m_sub, m_mul, m_neg, m_lt, m_le, m_eq, m_of, m_nz, m_to, c_gt, c_ge, c_lt, c_le, c_eq, e0, e2, c1, hsp]
        simp (disch := omega) only [sB_w] at g1
        have e : wB (wB sPl 1 (vp_updL (sPl.2.2.2 1) k (Int64.ofInt (cC lv p s k (ch k))))) 1 g = wB sPl 1 g := by
          obtain ⟨a, b, c, e⟩ := sPl
          show (a, b, c, uN (uN e 1 _) 1 g) = (a, b, c, uN e 1 g)
          congr 3
          funext j
          by_cases q : j = 1
          · subst q; rw [uN_s, uN_s]
          · rw [uN_n _ _ _ _ q, uN_n _ _ _ _ q, uN_n _ _ _ _ q]
        rw [e] at g1
        exact g1
      · intro x h1 h2
        by_cases e : x = k
        · subst e
          rw [g3 x (by omega)]
          simp (disch := omega) only [sI_a, sI_b, sL_a, sL_b, sL_c, wA_a, wA_b, wA_c, wA_d, wB_a, wB_b, wB_c, wB_d, sA_w, sB_w, uN_s, uN_n, up_s, up_n, ul_s, ul_n, p_fst, p_snd]
        · exact g2 x (by omega) h2
      · intro x hx
        rw [g3 x (by omega)]
        simp (disch := omega) only [sI_a, sI_b, sL_a, sL_b, sL_c, wA_a, wA_b, wA_c, wA_d, wB_a, wB_b, wB_c, wB_d, sA_w, sB_w, uN_s, uN_n, up_s, up_n, ul_s, ul_n, p_fst, p_snd]
theorem buyNothing_go {F : Nat} : ∀ (d k n : Nat) (g : Nat → Int32), k + d = 41 → d < n → (∀ x, x < k → g x = Int32.ofInt (x : Int)) → ∃ g', f_X6_buyNothing_2 F 41 n (Int32.ofInt (k : Int)) g = some g' ∧ (∀ x : Nat, x < 41 → g' x = Int32.ofInt (x : Int)) := by
  intro d
  induction d with
  | zero =>
    intro k n g hk hn hg
    cases n with
    | zero => omega
    | succ n =>
      refine ⟨g, ?_, fun x hx => hg x (by omega)⟩
      rw [f_X6_buyNothing_2]
      simp (disch := omega) only [z_0, z_1, z_2, z_3, z_4, z_5, z_6, z_7, z_8, z_9, z_10, z_11, z_12, z_14, z_18, z_20, z_22, z_24, z_32, z_38, z_40, z_41, z_44, z_48, z_49, z_57, z_59, z_60, z_63, z_65, z_74, z_75, z_81, z_97, z_99, z_104, z_115, z_119, z_122, z_200, z_209, z_210, z_219, z_228, z_255, z_300, z_369, z_999, z_65537, z_268435456, z_1000000000, n_nat, n_add, n_sub, n_mul, n_neg, n_lt, n_le, n_eq, n_ix, n_gd, n_nz, lz_t, bd_some, tn, Int.reduceToNat, tn_1, if_pos, if_neg, if_true, if_false, sI_a, sI_b, sL_a, sL_b, sL_c, wA_a, wA_b, wA_c, wA_d, wB_a, wB_b, wB_c, wB_d, sA_w, sB_w, uN_s, uN_n, up_s, up_n, ul_s, ul_n, p_fst, p_snd]
  | succ d ih =>
    intro k n g hk hn hg
    cases n with
    | zero => omega
    | succ n =>
      obtain ⟨g', h1, h2⟩ := ih (k + 1) n (upd g k (Int32.ofInt (k : Int))) (by omega) (by omega) (fun x hx => by
        by_cases e : x = k
        · subst e; rw [up_s]
        · rw [up_n _ _ _ _ e]; exact hg x (by omega))
      refine ⟨g', ?_, h2⟩
      rw [f_X6_buyNothing_2]
      simp (disch := omega) only [z_0, z_1, z_2, z_3, z_4, z_5, z_6, z_7, z_8, z_9, z_10, z_11, z_12, z_14, z_18, z_20, z_22, z_24, z_32, z_38, z_40, z_41, z_44, z_48, z_49, z_57, z_59, z_60, z_63, z_65, z_74, z_75, z_81, z_97, z_99, z_104, z_115, z_119, z_122, z_200, z_209, z_210, z_219, z_228, z_255, z_300, z_369, z_999, z_65537, z_268435456, z_1000000000, n_nat, n_add, n_sub, n_mul, n_neg, n_lt, n_le, n_eq, n_ix, n_gd, n_nz, lz_t, bd_some, tn, Int.reduceToNat, tn_1, if_pos, if_neg, if_true, if_false, sI_a, sI_b, sL_a, sL_b, sL_c, wA_a, wA_b, wA_c, wA_d, wB_a, wB_b, wB_c, wB_d, sA_w, sB_w, uN_s, uN_n, up_s, up_n, ul_s, ul_n, p_fst, p_snd]
      exact h1
theorem buyNothing_e {F : Nat} (hF : 100 ≤ F) (g : Nat → Int32) : ∃ g', f_X6_buyNothing F 41 g = some g' ∧ (∀ x : Nat, x < 41 → g' x = Int32.ofInt (x : Int)) := buyNothing_go 41 0 F g rfl (by omega) (fun x hx => by omega)
