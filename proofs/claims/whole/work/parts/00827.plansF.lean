/-! the calls: cheapest, how, rest, without, gap, need -/
def KP (s s' : MS) : Prop := (∀ k, k < 23 → s'.1 k = s.1 k) ∧ (∀ a, a < 23 → s'.2.2.1 a = s.2.2.1 a)
theorem KP_r (s : MS) : KP s s := ⟨fun _ _ => rfl, fun _ _ => rfl⟩
theorem KP_t {s s' s2 : MS} (h : KP s s') (g : KP s' s2) : KP s s2 := ⟨fun k hk => (g.1 k hk).trans (h.1 k hk), fun a ha => (g.2 a ha).trans (h.2 a ha)⟩
theorem KP_f {s s' : MS} {a b : Nat} (h : FW s s' a b) (ha : 23 ≤ a) (hb : 23 ≤ b) : KP s s' := ⟨fun k _ => by rw [h.1], fun k hk => h.2.2.2 k (by omega) (by omega)⟩
theorem KP_i (s : MS) {k : Nat} (v : Int32) (hk : 23 ≤ k) : KP s (sI s k v) := ⟨fun j hj => uN_n _ _ _ _ (by omega), fun _ _ => rfl⟩
def gQ (s : MS) : MS := sI (sI s 0 0) 11 0
theorem X11_good' {F : Nat} (s : MS) : f_X11_good F s = some (gQ s) := rfl
/-- what both did to their troubles; the reference's rows behind 23 are its own -/
def TU (sMn sMo sMn' sMo' : MS) : Prop := ∃ t : Int32, sMn' = sI sMn 11 t ∧ sMo'.1 0 = 0 ∧ sMo'.1 11 = t ∧ (∀ k, k < 23 → k ≠ 0 → k ≠ 11 → sMo'.1 k = sMo.1 k) ∧ (∀ a, a < 23 → sMo'.2.2.1 a = sMo.2.2.1 a)
theorem TU_k {sMn sMo s' : MS} (h : KP (gQ sMo) s') : TU sMn sMo (sI sMn 11 0) s' := by
  refine ⟨0, rfl, ?_, ?_, ?_, ?_⟩
  · rw [h.1 0 (by omega)]; rfl
  · rw [h.1 11 (by omega)]; rfl
  · intro k h1 h2 h3
    rw [h.1 k h1]
    unfold gQ
    rw [sI_n _ _ _ _ h3, sI_n _ _ _ _ h2]
  · intro a ha
    rw [h.2 a ha]; rfl
theorem TU_n {sMn sMo s' : MS} (h : KP (gQ sMo) s') (t : Int32) : TU sMn sMo (sI sMn 11 t) (sI s' 11 t) := by
  refine ⟨t, rfl, ?_, sI_s _ _ _, ?_, ?_⟩
  · rw [sI_n _ _ _ _ (by decide), h.1 0 (by omega)]; rfl
  · intro k h1 h2 h3
    rw [sI_n _ _ _ _ h3, h.1 k h1]
    unfold gQ
    rw [sI_n _ _ _ _ h3, sI_n _ _ _ _ h2]
  · intro a ha
    show s'.2.2.1 a = _
    rw [h.2 a ha]; rfl
theorem TU_T {sMn sMo sMn' sMo' : MS} (h : TT sMn sMo sMn' sMo') : TU sMn sMo sMn' sMo' := by
  obtain ⟨t, h1, h2, h3, h4, h5⟩ := h
  exact ⟨t, h1, h3, h4, fun k _ a b => h5 k a b, fun a _ => by rw [h2]⟩
theorem gQ_15 (s : MS) : (gQ s).2.2.1 15 = s.2.2.1 15 := rfl
theorem gQ_14 (s : MS) : (gQ s).1 14 = s.1 14 := rfl
theorem ne2 (v : Int) (hv : v = 1000000000 ∨ (0 ≤ v ∧ v ≤ 100000)) : (Int32.ofInt (ans v) = Int32.ofInt (-2)) = (v = 1000000000) := by
  unfold ans
  by_cases c : v = 1000000000
  · rw [if_pos c]; simp [c]
  · rw [if_neg c, n_eq _ _ (by omega) (by omega) (by omega) (by omega)]
    apply propext
    omega
theorem n_m2 : (-2 : Int32) = Int32.ofInt (-2) := rfl
theorem n_m1 : (-1 : Int32) = Int32.ofInt (-1) := rfl
theorem P_cheapest {F : Nat} (hF : 100 ≤ F) {sMn sRo sPl sPc sMo : MS} (hR : RR sRo (sMo.2.2.1 15)) (H : HR (sMo.2.2.1 15) (sMo.1 14)) :
    ∃ v sMn' sPl' sPc' sMo', f_X10_cheapest F sRo sMn sPl sPc = some (v, sMn', sPl', sPc') ∧ f_X11_cheapest F sMo = some (v, sMo') ∧ TU sMn sMo sMn' sMo' ∧ sPl'.2.2.1 = sPl.2.2.1 := by
  unfold f_X10_cheapest f_X11_cheapest
  rw [X9_isTold hR H, bd_some, X11_good', bd_some, gQ_14]
  rcases H with ⟨h1, h2⟩ | ⟨h1, h2⟩
  · obtain ⟨t0, t1, t2, t3, t4, t5, t8, t9⟩ := ROKb h2
    obtain ⟨a, b, k1, k2, k3⟩ := leastCost_e (F := F) hF hR h2 (-1) (by omega) (by omega) sPl sPc
    obtain ⟨s', l1, l2, l3⟩ := lay_e (F := F) hF h2 false (-1) (by omega) (by omega) (gQ sMo) rfl
    have lf := leastFrom_e (F := F) h2 l3 (x := (rd (sMo.2.2.1 15) 1).toNat) (by omega)
    have r1 : s'.2.2.1 15 1 = Int32.ofInt (((rd (sMo.2.2.1 15) 1).toNat : Nat) : Int) := by
      rw [l2.2.2.2 15 (by omega) (by omega), gQ_15, rd_e (sMo.2.2.1 15) 1]
      congr 1
      omega
    have l1' : f_X11_layPlans F 0 (-1) (gQ sMo) = some s' := l1
    have k1' : f_X6_leastCost F sRo (-1) sPl sPc = _ := k1
    rw [h1, if_neg (by decide), if_neg (by decide), k1', bd_some, X10_accept, bd_some, l1', bd_some, gd_t (by decide), lz_t]
    show ∃ v sMn' sPl' sPc' sMo', _ ∧ (bd (f_X11_leastFrom F s' (s'.2.2.1 15 1)) fun o6 => some (o6, s')) = some (v, sMo') ∧ _ ∧ _
    rw [r1, lf, bd_some]
    exact ⟨_, _, _, _, _, rfl, rfl, TU_k (KP_f l2 (by omega) (by omega)), k3⟩
  · rw [h1, if_pos rfl, if_pos rfl]
    exact ⟨-1, _, _, _, _, rfl, rfl, TU_n (KP_r _) 1, rfl⟩
/-! the way of the cheapest plan -/
theorem step_go {T : Nat} {B : Int} {nx : Nat → Int} {l p s : Int} {o : Bool} {f : Nat} (hT : T ≤ 40) (hB : B ≤ 100000) (h : okV T B nx) (hl : 0 ≤ l) (hp : 0 ≤ p) (hp2 : p ≤ 99) (hs : 0 ≤ s) (hs2 : s ≤ 99) (hf : f ≤ T) (hv : stepV T l p s o nx f ≠ 1000000000) : l ≤ ((f + stepB T l p s o nx f : Nat) : Int) ∧ f + stepB T l p s o nx f ≤ T ∧ nx (f + stepB T l p s o nx f - l.toNat) ≠ 1000000000 := by
  have b := stepB_le T l p s o nx f
  unfold stepV at hv
  rcases cR_ok hT (lM_ok hl h) hp hp2 hs hs2 (f := f) (n := stepB T l p s o nx f) (by omega) with q | q
  · exact absurd q.1 hv
  · have := q.2.2.1
    unfold lM at this
    by_cases c : ((f + stepB T l p s o nx f : Nat) : Int) < l
    · rw [if_pos c] at this; exact absurd rfl this
    · rw [if_neg c] at this
      exact ⟨by omega, by omega, this⟩
def lev (r : Nat → Int32) : Nat → Nat
  | 0 => (rd r 1).toNat
  | k + 1 => lev r k + bR r false (-1) ((rd r 8).toNat - 2 - k) (lev r k) - (lg r k).toNat
theorem lev_ok {r : Nat → Int32} (h : ROK r) (hv : vR r false (-1) ((rd r 8).toNat - 1) (rd r 1).toNat ≠ 1000000000) : ∀ k : Nat, (k : Int) < rd r 8 → (lev r k : Int) ≤ rd r 0 ∧ vR r false (-1) ((rd r 8).toNat - 1 - k) (lev r k) ≠ 1000000000 ∧ ((k : Int) + 1 < rd r 8 → lg r k ≤ ((lev r k + bR r false (-1) ((rd r 8).toNat - 2 - k) (lev r k) : Nat) : Int) ∧ ((lev r k + bR r false (-1) ((rd r 8).toNat - 2 - k) (lev r k) : Nat) : Int) ≤ rd r 0) := by
  obtain ⟨t0, t1, t2, t3, t4, t5, t8, t9⟩ := ROKb h
  have stp : ∀ k : Nat, (k : Int) + 1 < rd r 8 → (lev r k : Int) ≤ rd r 0 → vR r false (-1) ((rd r 8).toNat - 1 - k) (lev r k) ≠ 1000000000 → lg r k ≤ ((lev r k + bR r false (-1) ((rd r 8).toNat - 2 - k) (lev r k) : Nat) : Int) ∧ ((lev r k + bR r false (-1) ((rd r 8).toNat - 2 - k) (lev r k) : Nat) : Int) ≤ rd r 0 ∧ vR r false (-1) ((rd r 8).toNat - 1 - (k + 1)) (lev r (k + 1)) ≠ 1000000000 := by
    intro k hk h1 h2
    have hd : (rd r 8).toNat - 1 - k = ((rd r 8).toNat - 2 - k) + 1 := by omega
    have hd2 : (rd r 8).toNat - 1 - (k + 1) = (rd r 8).toNat - 2 - k := by omega
    have hi : (rd r 8).toNat - 2 - ((rd r 8).toNat - 2 - k) = k := by omega
    have ok := vR_ok h false (-1) ((rd r 8).toNat - 2 - k) (by omega)
    have l := lg_c h (i := k) (by omega)
    have p := rp_b h (i := k) (by omega)
    rw [hd] at h2
    have h2' : stepV _ _ _ _ _ _ _ ≠ 1000000000 := h2
    rw [hi] at h2'
    obtain ⟨g1, g2, g3⟩ := step_go (by omega) (by omega) ok (by omega) (by show 0 ≤ rp r k; omega) (by show rp r k ≤ 99; omega) (by show 0 ≤ rd r 2; omega) (by show rd r 2 ≤ 99; omega) (by omega) h2'
    have bE : bR r false (-1) ((rd r 8).toNat - 2 - k) (lev r k) = stepB (rd r 0).toNat (lg r k) (rp r k) (rd r 2) (decide (0 < rp r k) && !decide ((k : Int) = -1)) (vR r false (-1) ((rd r 8).toNat - 2 - k)) (lev r k) := by
      unfold bR
      rw [hi]
      rfl
    rw [hd2]
    show _ ∧ _ ∧ vR r false (-1) ((rd r 8).toNat - 2 - k) (lev r k + bR r false (-1) ((rd r 8).toNat - 2 - k) (lev r k) - (lg r k).toNat) ≠ 1000000000
    rw [bE]
    refine ⟨g1, ?_, g3⟩
    have g2' : lev r k + stepB (rd r 0).toNat (lg r k) (rp r k) (rd r 2) (decide (0 < rp r k) && !decide ((k : Int) = -1)) (vR r false (-1) ((rd r 8).toNat - 2 - k)) (lev r k) ≤ (rd r 0).toNat := g2
    omega
  have main : ∀ k : Nat, (k : Int) < rd r 8 → (lev r k : Int) ≤ rd r 0 ∧ vR r false (-1) ((rd r 8).toNat - 1 - k) (lev r k) ≠ 1000000000 := by
    intro k
    induction k with
    | zero => intro _; exact ⟨by show (((rd r 1).toNat : Nat) : Int) ≤ _; omega, hv⟩
    | succ k ih =>
      intro hk
      obtain ⟨a, b⟩ := ih (by omega)
      obtain ⟨c1, c2, c3⟩ := stp k (by omega) a b
      have l := lg_c h (i := k) (by omega)
      refine ⟨?_, c3⟩
      show ((lev r k + bR r false (-1) ((rd r 8).toNat - 2 - k) (lev r k) - (lg r k).toNat : Nat) : Int) ≤ _
      omega
  intro k hk
  obtain ⟨a, b⟩ := main k hk
  refine ⟨a, b, fun hk1 => ?_⟩
  obtain ⟨c1, c2, -⟩ := stp k hk1 a b
  exact ⟨c1, c2⟩
theorem coming_go {F : Nat} {sRo sPl sPc : MS} {r : Nat → Int32} (hR : RR sRo r) (h : ROK r) (hv : vR r false (-1) ((rd r 8).toNat - 1) (rd r 1).toNat ≠ 1000000000) (hI : lookI r (-1) 0 sPl sPc) {st : Nat} (hst : (st : Int) < rd r 8) :
    ∀ (d k n : Nat), k + d = st → d < n → f_X6_levelOnComing_8 F sPl sPc sRo (Int32.ofInt (st : Int)) n (Int32.ofInt ((lev r k : Nat) : Int)) (Int32.ofInt (k : Int)) = some (Int32.ofInt ((lev r st : Nat) : Int)) := by
  obtain ⟨t0, t1, t2, t3, t4, t5, t8, t9⟩ := ROKb h
  intro d
  induction d with
  | zero =>
    intro k n hk hn
    cases n with
    | zero => omega
    | succ n =>
      have e : k = st := by omega
      subst e
      rw [f_X6_levelOnComing_8]
      simp (disch := omega) only [z_0, z_1, z_2, z_3, z_4, z_5, z_6, z_7, z_8, z_9, z_10, z_11, z_12, z_14, z_18, z_20, z_22, z_24, z_32, z_38, z_40, z_41, z_44, z_48, z_49, z_57, z_59, z_60, z_63, z_65, z_74, z_75, z_81, z_97, z_99, z_104, z_115, z_119, z_122, z_200, z_209, z_210, z_219, z_228, z_255, z_300, z_369, z_999, z_65537, z_268435456, z_1000000000, n_nat, n_add, n_sub, n_mul, n_neg, n_lt, n_le, n_eq, n_ix, n_gd, n_nz, lz_t, bd_some, tn, Int.reduceToNat, tn_1, if_pos, if_neg, if_true, if_false, sI_a, sI_b, sL_a, sL_b, sL_c, wA_a, wA_b, wA_c, wA_d, wB_a, wB_b, wB_c, wB_d, sA_w, sB_w, uN_s, uN_n, up_s, up_n, ul_s, ul_n, p_fst, p_snd]
  | succ d ih =>
    intro k n hk hn
    cases n with
    | zero => omega
    | succ n =>
      obtain ⟨a, b, c⟩ := lev_ok h hv k (by omega)
      obtain ⟨c1, c2⟩ := c (by omega)
      have hc := hI.2 k (by omega) (by omega) (lev r k) (by omega) b
      have l := lg_c h (i := k) (by omega)
      have := ih (k + 1) n (by omega) (by omega)
      have e : ((lev r (k + 1) : Nat) : Int) = ((lev r k + bR r false (-1) ((rd r 8).toNat - 2 - k) (lev r k) : Nat) : Int) - lg r k := by
        show ((lev r k + bR r false (-1) ((rd r 8).toNat - 2 - k) (lev r k) - (lg r k).toNat : Nat) : Int) = _
        omega
      rw [e] at this
      rw [f_X6_levelOnComing_8]
      simp (disch := omega) only [z_0, z_1, z_2, z_3, z_4, z_5, z_6, z_7, z_8, z_9, z_10, z_11, z_12, z_14, z_18, z_20, z_22, z_24, z_32, z_38, z_40, z_41, z_44, z_48, z_49, z_57, z_59, z_60, z_63, z_65, z_74, z_75, z_81, z_97, z_99, z_104, z_115, z_119, z_122, z_200, z_209, z_210, z_219, z_228, z_255, z_300, z_369, z_999, z_65537, z_268435456, z_1000000000, n_nat, n_add, n_sub, n_mul, n_neg, n_lt, n_le, n_eq, n_ix, n_gd, n_nz, lz_t, bd_some, tn, Int.reduceToNat, tn_1, if_pos, if_neg, if_true, if_false, sI_a, sI_b, sL_a, sL_b, sL_c, wA_a, wA_b, wA_c, wA_d, wB_a, wB_b, wB_c, wB_d, sA_w, sB_w, uN_s, uN_n, up_s, up_n, ul_s, ul_n, p_fst, p_snd, hc, A9_leg hR h]
      by_cases z : 0 < ((lev r k + bR r false (-1) ((rd r 8).toNat - 2 - k) (lev r k) : Nat) : Int) - lg r k
      · rw [if_pos z]; exact this
      · rw [if_neg z]
        rw [show ((lev r k + bR r false (-1) ((rd r 8).toNat - 2 - k) (lev r k) : Nat) : Int) - lg r k = 0 by omega] at this
        exact this
theorem how_go {F : Nat} {r : Nat → Int32} (h : ROK r) (hv : vR r false (-1) ((rd r 8).toNat - 1) (rd r 1).toNat ≠ 1000000000) {s : MS} (hs : s.2.2.1 15 = r) (hI : layI r false (-1) 0 s) {st : Nat} (hst : (st : Int) + 1 < rd r 8) :
    ∀ (d k n : Nat), k + d = st → d < n → f_X11_how_51 F (Int32.ofInt (st : Int)) n (Int32.ofInt ((lev r k : Nat) : Int)) (Int32.ofInt (k : Int)) s = some (Int32.ofInt ((bR r false (-1) ((rd r 8).toNat - 2 - st) (lev r st) : Nat) : Int), s) := by
  obtain ⟨t0, t1, t2, t3, t4, t5, t8, t9⟩ := ROKb h
  intro d
  induction d with
  | zero =>
    intro k n hk hn
    cases n with
    | zero => omega
    | succ n =>
      have e : k = st := by omega
      subst e
      obtain ⟨a, b, c⟩ := lev_ok h hv k (by omega)
      have hb := hI.2 k (by omega) (by omega) (lev r k) a
      rw [f_X11_how_51]
      simp (disch := omega) only [z_0, z_1, z_2, z_3, z_4, z_5, z_6, z_7, z_8, z_9, z_10, z_11, z_12, z_14, z_18, z_20, z_22, z_24, z_32, z_38, z_40, z_41, z_44, z_48, z_49, z_57, z_59, z_60, z_63, z_65, z_74, z_75, z_81, z_97, z_99, z_104, z_115, z_119, z_122, z_200, z_209, z_210, z_219, z_228, z_255, z_300, z_369, z_999, z_65537, z_268435456, z_1000000000, n_nat, n_add, n_sub, n_mul, n_neg, n_lt, n_le, n_eq, n_ix, n_gd, n_nz, lz_t, bd_some, tn, Int.reduceToNat, tn_1, if_pos, if_neg, if_true, if_false, sI_a, sI_b, sL_a, sL_b, sL_c, wA_a, wA_b, wA_c, wA_d, wB_a, wB_b, wB_c, wB_d, sA_w, sB_w, uN_s, uN_n, up_s, up_n, ul_s, ul_n, p_fst, p_snd, f_X11_how_82, tn_41, hb]
  | succ d ih =>
    intro k n hk hn
    cases n with
    | zero => omega
    | succ n =>
      obtain ⟨a, b, c⟩ := lev_ok h hv k (by omega)
      obtain ⟨c1, c2⟩ := c (by omega)
      have hb := hI.2 k (by omega) (by omega) (lev r k) a
      have l := lg_c h (i := k) (by omega)
      have := ih (k + 1) n (by omega) (by omega)
      have e : ((lev r (k + 1) : Nat) : Int) = (lev r k : Int) + ((bR r false (-1) ((rd r 8).toNat - 2 - k) (lev r k) : Nat) - lg r k) := by
        show ((lev r k + bR r false (-1) ((rd r 8).toNat - 2 - k) (lev r k) - (lg r k).toNat : Nat) : Int) = _
        omega
      rw [e] at this
      rw [f_X11_how_51]
      simp (disch := omega) only [z_0, z_1, z_2, z_3, z_4, z_5, z_6, z_7, z_8, z_9, z_10, z_11, z_12, z_14, z_18, z_20, z_22, z_24, z_32, z_38, z_40, z_41, z_44, z_48, z_49, z_57, z_59, z_60, z_63, z_65, z_74, z_75, z_81, z_97, z_99, z_104, z_115, z_119, z_122, z_200, z_209, z_210, z_219, z_228, z_255, z_300, z_369, z_999, z_65537, z_268435456, z_1000000000, n_nat, n_add, n_sub, n_mul, n_neg, n_lt, n_le, n_eq, n_ix, n_gd, n_nz, lz_t, bd_some, tn, Int.reduceToNat, tn_1, if_pos, if_neg, if_true, if_false, sI_a, sI_b, sL_a, sL_b, sL_c, wA_a, wA_b, wA_c, wA_d, wB_a, wB_b, wB_c, wB_d, sA_w, sB_w, uN_s, uN_n, up_s, up_n, ul_s, ul_n, p_fst, p_snd, tn_41, hb, A11_leg hs h]
      exact this
theorem rest_go {F : Nat} {r : Nat → Int32} (h : ROK r) (hv : vR r false (-1) ((rd r 8).toNat - 1) (rd r 1).toNat ≠ 1000000000) {s : MS} (hs : s.2.2.1 15 = r) (hI : layI r false (-1) 0 s) :
    ∀ (d k n : Nat), (k : Int) + 1 + d = rd r 8 → d < n → f_X11_rest_50 F n (Int32.ofInt ((lev r k : Nat) : Int)) (Int32.ofInt (k : Int)) s = some (Int32.ofInt ((lev r ((rd r 8).toNat - 1) : Nat) : Int), s) := by
  obtain ⟨t0, t1, t2, t3, t4, t5, t8, t9⟩ := ROKb h
  intro d
  induction d with
  | zero =>
    intro k n hk hn
    cases n with
    | zero => omega
    | succ n =>
      have e : k = (rd r 8).toNat - 1 := by omega
      rw [f_X11_rest_50, ← e]
      simp (disch := omega) only [z_0, z_1, z_2, z_3, z_4, z_5, z_6, z_7, z_8, z_9, z_10, z_11, z_12, z_14, z_18, z_20, z_22, z_24, z_32, z_38, z_40, z_41, z_44, z_48, z_49, z_57, z_59, z_60, z_63, z_65, z_74, z_75, z_81, z_97, z_99, z_104, z_115, z_119, z_122, z_200, z_209, z_210, z_219, z_228, z_255, z_300, z_369, z_999, z_65537, z_268435456, z_1000000000, n_nat, n_add, n_sub, n_mul, n_neg, n_lt, n_le, n_eq, n_ix, n_gd, n_nz, lz_t, bd_some, tn, Int.reduceToNat, tn_1, if_pos, if_neg, if_true, if_false, sI_a, sI_b, sL_a, sL_b, sL_c, wA_a, wA_b, wA_c, wA_d, wB_a, wB_b, wB_c, wB_d, sA_w, sB_w, uN_s, uN_n, up_s, up_n, ul_s, ul_n, p_fst, p_snd, A11_last hs h]
  | succ d ih =>
    intro k n hk hn
    cases n with
    | zero => omega
    | succ n =>
      obtain ⟨a, b, c⟩ := lev_ok h hv k (by omega)
      obtain ⟨c1, c2⟩ := c (by omega)
      have hb := hI.2 k (by omega) (by omega) (lev r k) a
      have l := lg_c h (i := k) (by omega)
      have := ih (k + 1) n (by omega) (by omega)
      have e : ((lev r (k + 1) : Nat) : Int) = (lev r k : Int) + ((bR r false (-1) ((rd r 8).toNat - 2 - k) (lev r k) : Nat) - lg r k) := by
        show ((lev r k + bR r false (-1) ((rd r 8).toNat - 2 - k) (lev r k) - (lg r k).toNat : Nat) : Int) = _
        omega
      rw [e] at this
      rw [f_X11_rest_50]
      simp (disch := omega) only [z_0, z_1, z_2, z_3, z_4, z_5, z_6, z_7, z_8, z_9, z_10, z_11, z_12, z_14, z_18, z_20, z_22, z_24, z_32, z_38, z_40, z_41, z_44, z_48, z_49, z_57, z_59, z_60, z_63, z_65, z_74, z_75, z_81, z_97, z_99, z_104, z_115, z_119, z_122, z_200, z_209, z_210, z_219, z_228, z_255, z_300, z_369, z_999, z_65537, z_268435456, z_1000000000, n_nat, n_add, n_sub, n_mul, n_neg, n_lt, n_le, n_eq, n_ix, n_gd, n_nz, lz_t, bd_some, tn, Int.reduceToNat, tn_1, if_pos, if_neg, if_true, if_false, sI_a, sI_b, sL_a, sL_b, sL_c, wA_a, wA_b, wA_c, wA_d, wB_a, wB_b, wB_c, wB_d, sA_w, sB_w, uN_s, uN_n, up_s, up_n, ul_s, ul_n, p_fst, p_snd, tn_41, hb, A11_leg hs h, A11_last hs h]
      exact this
theorem P_how {F : Nat} (hF : 100 ≤ F) {sMn sRo sPl sPc sMo : MS} (hR : RR sRo (sMo.2.2.1 15)) (H : HR (sMo.2.2.1 15) (sMo.1 14)) (p : Int32) :
    ∃ v sMn' sPl' sPc' sMo', f_X10_how F sRo p sMn sPl sPc = some (v, sMn', sPl', sPc') ∧ f_X11_how F p sMo = some (v, sMo') ∧ TU sMn sMo sMn' sMo' ∧ sPl'.2.2.1 = sPl.2.2.1 := by
  have h8 := hr_8 H
  unfold f_X10_how f_X11_how
  rw [X9_isLeft hR h8, bd_some, X11_good', bd_some, X11_isStop (s := gQ sMo) H, bd_some, gQ_15]
  cases hf : isF (sMo.2.2.1 15) p with
  | false => exact ⟨-1, _, _, _, _, rfl, rfl, TU_n (KP_r _) 1, rfl⟩
  | true =>
    obtain ⟨i, hi, hi8, rfl⟩ := ix_f h8.2 hf
    have h2 : ROK (sMo.2.2.1 15) := HRok H (i := i) (by omega)
    obtain ⟨t0, t1, t2, t3, t4, t5, t8, t9⟩ := ROKb h2
    obtain ⟨a, b, k1, k2, k3⟩ := leastCost_e (F := F) hF hR h2 (-1) (by omega) (by omega) sPl sPc
    obtain ⟨s', l1, l2, l3⟩ := lay_e (F := F) hF h2 false (-1) (by omega) (by omega) (gQ sMo) rfl
    have lf := leastFrom_e (F := F) h2 l3 (x := (rd (sMo.2.2.1 15) 1).toNat) (by omega)
    have hs' : s'.2.2.1 15 = sMo.2.2.1 15 := by rw [l2.2.2.2 15 (by omega) (by omega), gQ_15]
    have r1 : s'.2.2.1 15 1 = Int32.ofInt (((rd (sMo.2.2.1 15) 1).toNat : Nat) : Int) := by
      rw [hs', rd_e (sMo.2.2.1 15) 1]
      congr 1
      omega
    have l1' : f_X11_layPlans F 0 (-1) (gQ sMo) = some s' := l1
    have k1' : f_X6_leastCost F sRo (-1) sPl sPc = _ := k1
    have ok := vR_ok h2 false (-1) ((rd (sMo.2.2.1 15) 8).toNat - 1) (by omega) (rd (sMo.2.2.1 15) 1).toNat (by omega)
    rw [if_neg (by decide), if_neg (by decide), l1', bd_some, gd_t (by decide), lz_t, gd_t (by decide), lz_t]
    unfold f_X6_cheapestPints
    rw [k1', bd_some]
    show ∃ v sMn' sPl' sPc' sMo', _ ∧ (bd (f_X11_leastFrom F s' (s'.2.2.1 15 1)) fun o7 => if o7 = (-2 : Int32) then some ((-2 : Int32), s') else f_X11_how_51 F (Int32.ofInt (i : Int)) F (s'.2.2.1 15 1) (Int32.ofInt ((0 : Nat) : Int)) s') = some (v, sMo') ∧ _ ∧ _
    rw [r1, lf, bd_some, n_m2, if_congr_c (ne2 _ (by omega)), if_congr_c (ne2 _ (by omega))]
    by_cases c : vR (sMo.2.2.1 15) false (-1) ((rd (sMo.2.2.1 15) 8).toNat - 1) (rd (sMo.2.2.1 15) 1).toNat = 1000000000
    · rw [if_pos c, if_pos c, bd_some, X10_accept, bd_some]
      exact ⟨_, _, _, _, _, rfl, rfl, TU_k (KP_f l2 (by omega) (by omega)), k3⟩
    · have hg := how_go (F := F) h2 c hs' l3 (st := i) hi8 i 0 F (by omega) (by omega)
      have hc := coming_go (F := F) hR h2 c k2 (st := i) (by show (i : Int) < (sMo.2.2.1 15 8).toInt; omega) i 0 F (by omega) (by omega)
      obtain ⟨a1, a2, a3⟩ := lev_ok h2 c i (by show (i : Int) < (sMo.2.2.1 15 8).toInt; omega)
      obtain ⟨a4, a5⟩ := a3 hi8
      have hch := k2.2 i (by omega) hi8 (lev (sMo.2.2.1 15) i) (by omega) a2
      obtain ⟨q0, q1, q2, q3, q4, q5, q8, q9⟩ := RRb hR
      have hc' : f_X6_levelOnComing F a b sRo (Int32.ofInt (i : Int)) = some (Int32.ofInt ((lev (sMo.2.2.1 15) i : Nat) : Int)) := by
        unfold f_X6_levelOnComing
        rw [q1, ← hc]
        congr 2
        show rd (sMo.2.2.1 15) 1 = (((rd (sMo.2.2.1 15) 1).toNat : Nat) : Int)
        omega
      rw [if_neg c, if_neg c]
      simp (disch := omega) only [z_0, z_1, z_2, z_3, z_4, z_5, z_6, z_7, z_8, z_9, z_10, z_11, z_12, z_14, z_18, z_20, z_22, z_24, z_32, z_38, z_40, z_41, z_44, z_48, z_49, z_57, z_59, z_60, z_63, z_65, z_74, z_75, z_81, z_97, z_99, z_104, z_115, z_119, z_122, z_200, z_209, z_210, z_219, z_228, z_255, z_300, z_369, z_999, z_65537, z_268435456, z_1000000000, n_nat, n_add, n_sub, n_mul, n_neg, n_lt, n_le, n_eq, n_ix, n_gd, n_nz, lz_t, bd_some, tn, Int.reduceToNat, tn_1, if_pos, if_neg, if_true, if_false, hc', hch, X10_accept, p_fst, p_snd]
      refine ⟨_, _, _, _, _, rfl, ?_, TU_k (KP_f l2 (by omega) (by omega)), k3⟩
      have e : ((lev (sMo.2.2.1 15) i + bR (sMo.2.2.1 15) false (-1) ((rd (sMo.2.2.1 15) 8).toNat - 2 - i) (lev (sMo.2.2.1 15) i) : Nat) : Int) - (lev (sMo.2.2.1 15) i : Int) = ((bR (sMo.2.2.1 15) false (-1) ((rd (sMo.2.2.1 15) 8).toNat - 2 - i) (lev (sMo.2.2.1 15) i) : Nat) : Int) := by omega
      rw [e]
      exact hg
theorem P_rest {F : Nat} (hF : 100 ≤ F) {sMn sRo sPl sPc sMo : MS} (hR : RR sRo (sMo.2.2.1 15)) (H : HR (sMo.2.2.1 15) (sMo.1 14)) :
    ∃ v sMn' sPl' sPc' sMo', f_X10_rest F sRo sMn sPl sPc = some (v, sMn', sPl', sPc') ∧ f_X11_rest F sMo = some (v, sMo') ∧ TU sMn sMo sMn' sMo' ∧ sPl'.2.2.1 = sPl.2.2.1 := by
  unfold f_X10_rest f_X11_rest
  rw [X9_isTold hR H, bd_some, X11_good', bd_some, gQ_14]
  rcases H with ⟨h1, h2⟩ | ⟨h1, h2⟩
  · obtain ⟨t0, t1, t2, t3, t4, t5, t8, t9⟩ := ROKb h2
    obtain ⟨a, b, k1, k2, k3⟩ := leastCost_e (F := F) hF hR h2 (-1) (by omega) (by omega) sPl sPc
    obtain ⟨s', l1, l2, l3⟩ := lay_e (F := F) hF h2 false (-1) (by omega) (by omega) (gQ sMo) rfl
    have lf := leastFrom_e (F := F) h2 l3 (x := (rd (sMo.2.2.1 15) 1).toNat) (by omega)
    have hs' : s'.2.2.1 15 = sMo.2.2.1 15 := by rw [l2.2.2.2 15 (by omega) (by omega), gQ_15]
    have r1 : s'.2.2.1 15 1 = Int32.ofInt (((rd (sMo.2.2.1 15) 1).toNat : Nat) : Int) := by
      rw [hs', rd_e (sMo.2.2.1 15) 1]
      congr 1
      omega
    have l1' : f_X11_layPlans F 0 (-1) (gQ sMo) = some s' := l1
    have k1' : f_X6_leastCost F sRo (-1) sPl sPc = _ := k1
    have ok := vR_ok h2 false (-1) ((rd (sMo.2.2.1 15) 8).toNat - 1) (by omega) (rd (sMo.2.2.1 15) 1).toNat (by omega)
    rw [h1, if_neg (by decide), if_neg (by decide), l1', bd_some, gd_t (by decide), lz_t, gd_t (by decide), lz_t]
    unfold f_X6_cheapestRest
    rw [k1', bd_some]
    show ∃ v sMn' sPl' sPc' sMo', _ ∧ (bd (f_X11_leastFrom F s' (s'.2.2.1 15 1)) fun o7 => if o7 = (-2 : Int32) then some ((-2 : Int32), s') else f_X11_rest_50 F F (s'.2.2.1 15 1) (Int32.ofInt ((0 : Nat) : Int)) s') = some (v, sMo') ∧ _ ∧ _
    rw [r1, lf, bd_some, n_m2, if_congr_c (ne2 _ (by omega)), if_congr_c (ne2 _ (by omega))]
    by_cases c : vR (sMo.2.2.1 15) false (-1) ((rd (sMo.2.2.1 15) 8).toNat - 1) (rd (sMo.2.2.1 15) 1).toNat = 1000000000
    · rw [if_pos c, if_pos c, bd_some, X10_accept, bd_some]
      exact ⟨_, _, _, _, _, rfl, rfl, TU_k (KP_f l2 (by omega) (by omega)), k3⟩
    · have hg := rest_go (F := F) h2 c hs' l3 ((rd (sMo.2.2.1 15) 8).toNat - 1) 0 F (by omega) (by omega)
      have hc := coming_go (F := F) hR h2 c k2 (st := (rd (sMo.2.2.1 15) 8).toNat - 1) (by omega) ((rd (sMo.2.2.1 15) 8).toNat - 1) 0 F (by omega) (by omega)
      obtain ⟨q0, q1, q2, q3, q4, q5, q8, q9⟩ := RRb hR
      have hc' : f_X6_levelOnComing F a b sRo (Int32.ofInt (rd (sMo.2.2.1 15) 8 - 1)) = some (Int32.ofInt ((lev (sMo.2.2.1 15) ((rd (sMo.2.2.1 15) 8).toNat - 1) : Nat) : Int)) := by
        unfold f_X6_levelOnComing
        rw [q1, ← hc]
        congr 2
        · omega
        · show rd (sMo.2.2.1 15) 1 = (((rd (sMo.2.2.1 15) 1).toNat : Nat) : Int)
          omega
      rw [if_neg c, if_neg c]
      simp (disch := omega) only [z_0, z_1, z_2, z_3, z_4, z_5, z_6, z_7, z_8, z_9, z_10, z_11, z_12, z_14, z_18, z_20, z_22, z_24, z_32, z_38, z_40, z_41, z_44, z_48, z_49, z_57, z_59, z_60, z_63, z_65, z_74, z_75, z_81, z_97, z_99, z_104, z_115, z_119, z_122, z_200, z_209, z_210, z_219, z_228, z_255, z_300, z_369, z_999, z_65537, z_268435456, z_1000000000, n_nat, n_add, n_sub, n_mul, n_neg, n_lt, n_le, n_eq, n_ix, n_gd, n_nz, lz_t, bd_some, tn, Int.reduceToNat, tn_1, if_pos, if_neg, if_true, if_false, q8, hc', X10_accept, p_fst, p_snd]
      exact ⟨_, _, _, _, _, rfl, hg, TU_k (KP_f l2 (by omega) (by omega)), k3⟩
  · rw [h1, if_pos rfl, if_pos rfl]
    exact ⟨-1, _, _, _, _, rfl, rfl, TU_n (KP_r _) 1, rfl⟩
