/-! layPlans: the reference's plans -/
def curV (c : Nat → Int) (k : Nat) : Int := if k = 0 then 1000000000 else c (minTo c (k - 1))
def curB (c : Nat → Int) (k : Nat) : Nat := if k = 0 then 0 else minTo c (k - 1)
theorem cur_s (c : Nat → Int) (k : Nat) (h0 : c 0 ≤ 1000000000) : curV c (k + 1) = (if c k < curV c k then c k else curV c k) ∧ curB c (k + 1) = (if c k < curV c k then k else curB c k) := by
  unfold curV curB
  cases k with
  | zero =>
    simp only [if_true, if_false, Nat.add_sub_cancel, Nat.zero_add, Nat.one_ne_zero, Nat.sub_self, minTo]
    by_cases q : c 0 < 1000000000
    · rw [if_pos q, if_pos q]; exact ⟨rfl, rfl⟩
    · rw [if_neg q, if_neg q]; exact ⟨by omega, rfl⟩
  | succ k =>
    simp only [Nat.add_sub_cancel, Nat.succ_ne_zero, if_false]
    have : minTo c (k + 1) = if c (k + 1) < c (minTo c k) then k + 1 else minTo c k := rfl
    rw [this]
    split
    · exact ⟨rfl, rfl⟩
    · exact ⟨rfl, rfl⟩
theorem FW_if {s : MS} {c : Prop} [Decidable c] {a b i j : Nat} {v w : Int32} : FW s (if c then sA (sA s a i v) b j w else s) a b := by
  split
  · exact FW_t (FW_a s a b i v) (FW_b _ a b j w)
  · exact FW_r s a b
theorem tn_41n (i x : Nat) : (41 * ((i : Int) + 1) + (x : Int)).toNat = 41 * (i + 1) + x := by omega
theorem lay_one {F : Nat} {r : Nat → Int32} (h : ROK r) (q : Bool) (sh : Int) {i : Nat} (hi : (i : Int) + 1 < rd r 8) {f : Nat} (hf : (f : Int) ≤ rd r 0) (x4 : Int32) (kk : Int32 → Int32 → Int32 → Int32 → Int32 → MS → Option MS) (nx : Nat → Int) {B : Int} (hB : B ≤ 100000) (hok : okV (rd r 0).toNat B nx) {s : MS} (hs : s.2.2.1 15 = r)
    (hnx : ∀ x : Nat, (x : Int) ≤ rd r 0 → s.2.2.1 23 (41 * (i + 1) + x) = Int32.ofInt (nx x)) {c : Nat → Int} (hc : c = cR (lM (lg r i) nx) (if q then 0 else rp r i) (if q then 1 else rd r 2) f) {k : Nat} (hk : (f : Int) + k ≤ rd r 0) {cv : Int} (hcv : s.2.2.1 23 (41 * i + f) = Int32.ofInt cv) (hcb : 0 ≤ cv ∧ cv ≤ 1000000000) :
    f_X11_layPlans_132 F (bi q) (Int32.ofInt sh) kk (Int32.ofInt (i : Int)) x4 (Int32.ofInt (f : Int)) (Int32.ofInt (41 * (i : Int) + f)) (Int32.ofInt (k : Int)) s = kk (Int32.ofInt (i : Int)) x4 (Int32.ofInt (f : Int)) (Int32.ofInt (41 * (i : Int) + f)) (Int32.ofInt ((k : Int) + 1)) (if c k < cv then sA (sA s 23 (41 * i + f) (Int32.ofInt (c k))) 24 (41 * i + f) (Int32.ofInt (k : Int)) else s) := by
  obtain ⟨t0, t1, t2, t3, t4, t5, t8, t9⟩ := ROKb h
  have l := lg_c h hi
  have p := rp_b h (i := i) (by omega)
  have okl := lM_ok (l := lg r i) (by omega) hok
  have ck : c k = cR (lM (lg r i) nx) (if q then 0 else rp r i) (if q then 1 else rd r 2) f k := by rw [hc]
  have r2 : s.2.2.1 15 2 = Int32.ofInt (rd r 2) := by rw [hs]; exact rd_e r 2
  have m := mulc (p := rp r i) (x := k) (by omega) (by omega) (by omega)
  by_cases c1 : (f : Int) + k < lg r i
  · have e : c k = 1000000000 := by
      rw [ck]
      unfold cR lM
      rw [if_pos (by rw [if_pos (by omega)])]
    rw [e]
    simp (disch := omega) only [f_X11_layPlans_132, f_X11_layPlans_257, z_0, z_1, z_2, z_3, z_4, z_5, z_6, z_7, z_8, z_9, z_10, z_11, z_12, z_14, z_18, z_20, z_22, z_24, z_32, z_38, z_40, z_41, z_44, z_48, z_49, z_57, z_59, z_60, z_63, z_65, z_74, z_75, z_81, z_97, z_99, z_104, z_115, z_119, z_122, z_200, z_209, z_210, z_219, z_228, z_255, z_300, z_369, z_999, z_65537, z_268435456, z_1000000000, n_nat, n_add, n_sub, n_mul, n_neg, n_lt, n_le, n_eq, n_ix, n_gd, n_nz, lz_t, bd_some, tn, Int.reduceToNat, tn_1, if_pos, if_neg, if_true, if_false, sI_a, sI_b, sL_a, sL_b, sL_c, wA_a, wA_b, wA_c, wA_d, wB_a, wB_b, wB_c, wB_d, sA_w, sB_w, uN_s, uN_n, up_s, up_n, ul_s, ul_n, p_fst, p_snd, A11_leg hs h]
  · have ex : ((41 * (i : Int) + f + 41 + ((f : Int) + k - lg r i)) - f).toNat = 41 * (i + 1) + (f + k - (lg r i).toNat) := by omega
    have ey : (41 * ((i : Int) + 1) + ((f : Int) + k - lg r i)).toNat = 41 * (i + 1) + (f + k - (lg r i).toNat) := by omega
    have hn := hnx (f + k - (lg r i).toNat) (by omega)
    have hlm : lM (lg r i) nx (f + k) = nx (f + k - (lg r i).toNat) := by
      unfold lM
      rw [if_neg (by omega)]
    have ob := hok (f + k - (lg r i).toNat) (by omega)
    by_cases c2 : nx (f + k - (lg r i).toNat) = 1000000000
    · have e : c k = 1000000000 := by
        rw [ck]
        unfold cR
        rw [hlm, if_pos c2]
      rw [e]
      simp (disch := omega) only [f_X11_layPlans_132, f_X11_layPlans_257, z_0, z_1, z_2, z_3, z_4, z_5, z_6, z_7, z_8, z_9, z_10, z_11, z_12, z_14, z_18, z_20, z_22, z_24, z_32, z_38, z_40, z_41, z_44, z_48, z_49, z_57, z_59, z_60, z_63, z_65, z_74, z_75, z_81, z_97, z_99, z_104, z_115, z_119, z_122, z_200, z_209, z_210, z_219, z_228, z_255, z_300, z_369, z_999, z_65537, z_268435456, z_1000000000, n_nat, n_add, n_sub, n_mul, n_neg, n_lt, n_le, n_eq, n_ix, n_gd, n_nz, lz_t, bd_some, tn, Int.reduceToNat, tn_1, if_pos, if_neg, if_true, if_false, sI_a, sI_b, sL_a, sL_b, sL_c, wA_a, wA_b, wA_c, wA_d, wB_a, wB_b, wB_c, wB_d, sA_w, sB_w, uN_s, uN_n, up_s, up_n, ul_s, ul_n, p_fst, p_snd, A11_leg hs h, ex, hn]
    · have e : c k = nx (f + k - (lg r i).toNat) + (if k = 0 then 0 else (k : Int) * (if q then 0 else rp r i) + (if q then 1 else rd r 2)) := by
        rw [ck]
        unfold cR
        rw [hlm, if_neg c2]
      by_cases c3 : k = 0
      · rw [if_pos c3, Int.add_zero] at e
        by_cases c4 : c k < cv
        · simp (disch := omega) only [f_X11_layPlans_132, f_X11_layPlans_257, f_X11_layPlans_221, z_0, z_1, z_2, z_3, z_4, z_5, z_6, z_7, z_8, z_9, z_10, z_11, z_12, z_14, z_18, z_20, z_22, z_24, z_32, z_38, z_40, z_41, z_44, z_48, z_49, z_57, z_59, z_60, z_63, z_65, z_74, z_75, z_81, z_97, z_99, z_104, z_115, z_119, z_122, z_200, z_209, z_210, z_219, z_228, z_255, z_300, z_369, z_999, z_65537, z_268435456, z_1000000000, n_nat, n_add, n_sub, n_mul, n_neg, n_lt, n_le, n_eq, n_ix, n_gd, n_nz, lz_t, bd_some, tn, Int.reduceToNat, tn_1, if_pos, if_neg, if_true, if_false, sI_a, sI_b, sL_a, sL_b, sL_c, wA_a, wA_b, wA_c, wA_d, wB_a, wB_b, wB_c, wB_d, sA_w, sB_w, uN_s, uN_n, up_s, up_n, ul_s, ul_n, p_fst, p_snd, A11_leg hs h, ex, ey, hn, tn_41, hcv, e, Int.add_zero]
        · simp (disch := omega) only [f_X11_layPlans_132, f_X11_layPlans_257, f_X11_layPlans_221, z_0, z_1, z_2, z_3, z_4, z_5, z_6, z_7, z_8, z_9, z_10, z_11, z_12, z_14, z_18, z_20, z_22, z_24, z_32, z_38, z_40, z_41, z_44, z_48, z_49, z_57, z_59, z_60, z_63, z_65, z_74, z_75, z_81, z_97, z_99, z_104, z_115, z_119, z_122, z_200, z_209, z_210, z_219, z_228, z_255, z_300, z_369, z_999, z_65537, z_268435456, z_1000000000, n_nat, n_add, n_sub, n_mul, n_neg, n_lt, n_le, n_eq, n_ix, n_gd, n_nz, lz_t, bd_some, tn, Int.reduceToNat, tn_1, if_pos, if_neg, if_true, if_false, sI_a, sI_b, sL_a, sL_b, sL_c, wA_a, wA_b, wA_c, wA_d, wB_a, wB_b, wB_c, wB_d, sA_w, sB_w, uN_s, uN_n, up_s, up_n, ul_s, ul_n, p_fst, p_snd, A11_leg hs h, ex, ey, hn, tn_41, hcv, e, Int.add_zero]
      · rw [if_neg c3] at e
        cases q with
        | true =>
          have e' : c k = nx (f + k - (lg r i).toNat) + 1 := by rw [e]; simp
          have b1 : bi true = Int32.ofInt 1 := rfl
          by_cases c4 : c k < cv
          · simp (disch := omega) only [f_X11_layPlans_132, f_X11_layPlans_257, f_X11_layPlans_221, z_0, z_1, z_2, z_3, z_4, z_5, z_6, z_7, z_8, z_9, z_10, z_11, z_12, z_14, z_18, z_20, z_22, z_24, z_32, z_38, z_40, z_41, z_44, z_48, z_49, z_57, z_59, z_60, z_63, z_65, z_74, z_75, z_81, z_97, z_99, z_104, z_115, z_119, z_122, z_200, z_209, z_210, z_219, z_228, z_255, z_300, z_369, z_999, z_65537, z_268435456, z_1000000000, n_nat, n_add, n_sub, n_mul, n_neg, n_lt, n_le, n_eq, n_ix, n_gd, n_nz, lz_t, bd_some, tn, Int.reduceToNat, tn_1, if_pos, if_neg, if_true, if_false, sI_a, sI_b, sL_a, sL_b, sL_c, wA_a, wA_b, wA_c, wA_d, wB_a, wB_b, wB_c, wB_d, sA_w, sB_w, uN_s, uN_n, up_s, up_n, ul_s, ul_n, p_fst, p_snd, A11_leg hs h, ex, ey, hn, tn_41, hcv, e', b1]
          · simp (disch := omega) only [f_X11_layPlans_132, f_X11_layPlans_257, f_X11_layPlans_221, z_0, z_1, z_2, z_3, z_4, z_5, z_6, z_7, z_8, z_9, z_10, z_11, z_12, z_14, z_18, z_20, z_22, z_24, z_32, z_38, z_40, z_41, z_44, z_48, z_49, z_57, z_59, z_60, z_63, z_65, z_74, z_75, z_81, z_97, z_99, z_104, z_115, z_119, z_122, z_200, z_209, z_210, z_219, z_228, z_255, z_300, z_369, z_999, z_65537, z_268435456, z_1000000000, n_nat, n_add, n_sub, n_mul, n_neg, n_lt, n_le, n_eq, n_ix, n_gd, n_nz, lz_t, bd_some, tn, Int.reduceToNat, tn_1, if_pos, if_neg, if_true, if_false, sI_a, sI_b, sL_a, sL_b, sL_c, wA_a, wA_b, wA_c, wA_d, wB_a, wB_b, wB_c, wB_d, sA_w, sB_w, uN_s, uN_n, up_s, up_n, ul_s, ul_n, p_fst, p_snd, A11_leg hs h, ex, ey, hn, tn_41, hcv, e', b1]
        | false =>
          have e' : c k = nx (f + k - (lg r i).toNat) + ((k : Int) * rp r i + rd r 2) := by rw [e]; rfl
          have b1 : bi false = Int32.ofInt 0 := rfl
          by_cases c4 : c k < cv
          · simp (disch := omega) only [f_X11_layPlans_132, f_X11_layPlans_257, f_X11_layPlans_221, z_0, z_1, z_2, z_3, z_4, z_5, z_6, z_7, z_8, z_9, z_10, z_11, z_12, z_14, z_18, z_20, z_22, z_24, z_32, z_38, z_40, z_41, z_44, z_48, z_49, z_57, z_59, z_60, z_63, z_65, z_74, z_75, z_81, z_97, z_99, z_104, z_115, z_119, z_122, z_200, z_209, z_210, z_219, z_228, z_255, z_300, z_369, z_999, z_65537, z_268435456, z_1000000000, n_nat, n_add, n_sub, n_mul, n_neg, n_lt, n_le, n_eq, n_ix, n_gd, n_nz, lz_t, bd_some, tn, Int.reduceToNat, tn_1, if_pos, if_neg, if_true, if_false, sI_a, sI_b, sL_a, sL_b, sL_c, wA_a, wA_b, wA_c, wA_d, wB_a, wB_b, wB_c, wB_d, sA_w, sB_w, uN_s, uN_n, up_s, up_n, ul_s, ul_n, p_fst, p_snd, A11_leg hs h, A11_price hs h, ex, ey, hn, tn_41, hcv, e', b1, r2]
          · simp (disch := omega) only [f_X11_layPlans_132, f_X11_layPlans_257, f_X11_layPlans_221, z_0, z_1, z_2, z_3, z_4, z_5, z_6, z_7, z_8, z_9, z_10, z_11, z_12, z_14, z_18, z_20, z_22, z_24, z_32, z_38, z_40, z_41, z_44, z_48, z_49, z_57, z_59, z_60, z_63, z_65, z_74, z_75, z_81, z_97, z_99, z_104, z_115, z_119, z_122, z_200, z_209, z_210, z_219, z_228, z_255, z_300, z_369, z_999, z_65537, z_268435456, z_1000000000, n_nat, n_add, n_sub, n_mul, n_neg, n_lt, n_le, n_eq, n_ix, n_gd, n_nz, lz_t, bd_some, tn, Int.reduceToNat, tn_1, if_pos, if_neg, if_true, if_false, sI_a, sI_b, sL_a, sL_b, sL_c, wA_a, wA_b, wA_c, wA_d, wB_a, wB_b, wB_c, wB_d, sA_w, sB_w, uN_s, uN_n, up_s, up_n, ul_s, ul_n, p_fst, p_snd, A11_leg hs h, A11_price hs h, ex, ey, hn, tn_41, hcv, e', b1, r2]
theorem lay_n {F : Nat} {r : Nat → Int32} (h : ROK r) (q : Bool) (sh : Int) {i : Nat} (hi : (i : Int) + 1 < rd r 8) {f : Nat} (hf : (f : Int) ≤ rd r 0) (o : Bool) (k67 : Int32 → Int32 → Int32 → MS → Option MS) (nx : Nat → Int) {B : Int} (hB : B ≤ 100000) (hok : okV (rd r 0).toNat B nx) {c : Nat → Int} (hc : c = cR (lM (lg r i) nx) (if q then 0 else rp r i) (if q then 1 else rd r 2) f) :
    ∀ (d k n : Nat) (s : MS), k + d = (if o then (rd r 0).toNat - f else 0) + 1 → d < n → s.2.2.1 15 = r → (∀ x : Nat, (x : Int) ≤ rd r 0 → s.2.2.1 23 (41 * (i + 1) + x) = Int32.ofInt (nx x)) → s.2.2.1 23 (41 * i + f) = Int32.ofInt (curV c k) → s.2.2.1 24 (41 * i + f) = Int32.ofInt ((curB c k : Nat) : Int) →
    ∃ s', f_X11_layPlans_108 F (bi q) (Int32.ofInt sh) k67 n (Int32.ofInt (i : Int)) (bi o) (Int32.ofInt (f : Int)) (Int32.ofInt (41 * (i : Int) + f)) (Int32.ofInt (k : Int)) s = k67 (Int32.ofInt (i : Int)) (bi o) (Int32.ofInt ((f : Int) + 1)) s' ∧ FW s s' 23 24 ∧ s'.2.2.1 23 (41 * i + f) = Int32.ofInt (c (minTo c (if o then (rd r 0).toNat - f else 0))) ∧ s'.2.2.1 24 (41 * i + f) = Int32.ofInt ((minTo c (if o then (rd r 0).toNat - f else 0) : Nat) : Int) ∧ ∀ j, j ≠ 41 * i + f → s'.2.2.1 23 j = s.2.2.1 23 j ∧ s'.2.2.1 24 j = s.2.2.1 24 j := by
  obtain ⟨t0, t1, t2, t3, t4, t5, t8, t9⟩ := ROKb h
  have l := lg_c h hi
  have p := rp_b h (i := i) (by omega)
  have okl := lM_ok (l := lg r i) (by omega) hok
  have cb : ∀ n : Nat, (f : Int) + n ≤ rd r 0 → 0 ≤ c n ∧ c n ≤ 1000000000 := by
    intro n hn
    rw [hc]
    rcases cR_ok (T := (rd r 0).toNat) (p := if q then 0 else rp r i) (s := if q then 1 else rd r 2) (by omega) okl (by split <;> omega) (by split <;> omega) (by split <;> omega) (by split <;> omega) (f := f) (n := n) (by omega) with z | z <;> omega
  intro d
  induction d with
  | zero =>
    intro k n s hk hn hs hnx hv hb
    cases n with
    | zero => omega
    | succ n =>
      have r0 : s.2.2.1 15 0 = Int32.ofInt (rd r 0) := by rw [hs]; exact rd_e r 0
      have k1 : k ≠ 0 := by omega
      have e1 : curV c k = c (minTo c (if o then (rd r 0).toNat - f else 0)) := by
        unfold curV
        rw [if_neg k1, show k - 1 = (if o then (rd r 0).toNat - f else 0) by omega]
      have e2 : curB c k = minTo c (if o then (rd r 0).toNat - f else 0) := by
        unfold curB
        rw [if_neg k1, show k - 1 = (if o then (rd r 0).toNat - f else 0) by omega]
      refine ⟨s, ?_, FW_r s 23 24, by rw [hv, e1], by rw [hb, e2], fun _ _ => ⟨rfl, rfl⟩⟩
      rw [f_X11_layPlans_108]
      cases o with
      | true =>
        rw [if_pos rfl] at hk
        simp (disch := omega) only [f_X11_layPlans_263, z_0, z_1, z_2, z_3, z_4, z_5, z_6, z_7, z_8, z_9, z_10, z_11, z_12, z_14, z_18, z_20, z_22, z_24, z_32, z_38, z_40, z_41, z_44, z_48, z_49, z_57, z_59, z_60, z_63, z_65, z_74, z_75, z_81, z_97, z_99, z_104, z_115, z_119, z_122, z_200, z_209, z_210, z_219, z_228, z_255, z_300, z_369, z_999, z_65537, z_268435456, z_1000000000, n_nat, n_add, n_sub, n_mul, n_neg, n_lt, n_le, n_eq, n_ix, n_gd, n_nz, lz_t, bd_some, tn, Int.reduceToNat, tn_1, if_pos, if_neg, if_true, if_false, sI_a, sI_b, sL_a, sL_b, sL_c, wA_a, wA_b, wA_c, wA_d, wB_a, wB_b, wB_c, wB_d, sA_w, sB_w, uN_s, uN_n, up_s, up_n, ul_s, ul_n, p_fst, p_snd, r0]
      | false =>
        rw [if_neg (by decide)] at hk
        have b0 : bi false = Int32.ofInt 0 := rfl
        by_cases c1 : rd r 0 < (f : Int) + k
        · simp (disch := omega) only [f_X11_layPlans_263, z_0, z_1, z_2, z_3, z_4, z_5, z_6, z_7, z_8, z_9, z_10, z_11, z_12, z_14, z_18, z_20, z_22, z_24, z_32, z_38, z_40, z_41, z_44, z_48, z_49, z_57, z_59, z_60, z_63, z_65, z_74, z_75, z_81, z_97, z_99, z_104, z_115, z_119, z_122, z_200, z_209, z_210, z_219, z_228, z_255, z_300, z_369, z_999, z_65537, z_268435456, z_1000000000, n_nat, n_add, n_sub, n_mul, n_neg, n_lt, n_le, n_eq, n_ix, n_gd, n_nz, lz_t, bd_some, tn, Int.reduceToNat, tn_1, if_pos, if_neg, if_true, if_false, sI_a, sI_b, sL_a, sL_b, sL_c, wA_a, wA_b, wA_c, wA_d, wB_a, wB_b, wB_c, wB_d, sA_w, sB_w, uN_s, uN_n, up_s, up_n, ul_s, ul_n, p_fst, p_snd, r0]
        · simp (disch := omega) only [f_X11_layPlans_263, z_0, z_1, z_2, z_3, z_4, z_5, z_6, z_7, z_8, z_9, z_10, z_11, z_12, z_14, z_18, z_20, z_22, z_24, z_32, z_38, z_40, z_41, z_44, z_48, z_49, z_57, z_59, z_60, z_63, z_65, z_74, z_75, z_81, z_97, z_99, z_104, z_115, z_119, z_122, z_200, z_209, z_210, z_219, z_228, z_255, z_300, z_369, z_999, z_65537, z_268435456, z_1000000000, n_nat, n_add, n_sub, n_mul, n_neg, n_lt, n_le, n_eq, n_ix, n_gd, n_nz, lz_t, bd_some, tn, Int.reduceToNat, tn_1, if_pos, if_neg, if_true, if_false, sI_a, sI_b, sL_a, sL_b, sL_c, wA_a, wA_b, wA_c, wA_d, wB_a, wB_b, wB_c, wB_d, sA_w, sB_w, uN_s, uN_n, up_s, up_n, ul_s, ul_n, p_fst, p_snd, r0, b0]
  | succ d ih =>
    intro k n s hk hn hs hnx hv hb
    cases n with
    | zero => omega
    | succ n =>
      have r0 : s.2.2.1 15 0 = Int32.ofInt (rd r 0) := by rw [hs]; exact rd_e r 0
      have hk1 : (f : Int) + k ≤ rd r 0 := by
        cases o with
        | true => rw [if_pos rfl] at hk; omega
        | false => rw [if_neg (by decide)] at hk; omega
      have cvb : 0 ≤ curV c k ∧ curV c k ≤ 1000000000 := by
        unfold curV
        split
        · omega
        · have := minTo_le c (k - 1)
          exact cb _ (by omega)
      have cs := cur_s c k (cb 0 (by omega)).2
      have one := fun kk => lay_one (F := F) h q sh hi hf (bi o) kk nx hB hok hs hnx hc hk1 hv cvb
      obtain ⟨s', h1, h2, h3, h4, h5⟩ := ih (k + 1) n (if c k < curV c k then sA (sA s 23 (41 * i + f) (Int32.ofInt (c k))) 24 (41 * i + f) (Int32.ofInt (k : Int)) else s) (by omega) (by omega) (by rw [(FW_if (a := 23) (b := 24)).2.2.2 15 (by omega) (by omega)]; exact hs) (by
          intro x hx
          rw [← hnx x hx]
          split
          · simp (disch := omega) only [sI_a, sI_b, sL_a, sL_b, sL_c, wA_a, wA_b, wA_c, wA_d, wB_a, wB_b, wB_c, wB_d, sA_w, sB_w, uN_s, uN_n, up_s, up_n, ul_s, ul_n, p_fst, p_snd]
          · rfl) (by
          rw [cs.1]
          split
          · simp (disch := omega) only [sI_a, sI_b, sL_a, sL_b, sL_c, wA_a, wA_b, wA_c, wA_d, wB_a, wB_b, wB_c, wB_d, sA_w, sB_w, uN_s, uN_n, up_s, up_n, ul_s, ul_n, p_fst, p_snd]
          · exact hv) (by
          rw [cs.2]
          split
          · simp (disch := omega) only [sI_a, sI_b, sL_a, sL_b, sL_c, wA_a, wA_b, wA_c, wA_d, wB_a, wB_b, wB_c, wB_d, sA_w, sB_w, uN_s, uN_n, up_s, up_n, ul_s, ul_n, p_fst, p_snd]
          · exact hb)
      refine ⟨s', ?_, FW_t FW_if h2, h3, h4, ?_⟩
      · rw [f_X11_layPlans_108]
        cases o with
        | true =>
          have b1 : ¬ bi true = Int32.ofInt 0 := by decide
          by_cases k0 : k = 0
          · simp (disch := omega) only [z_0, z_1, z_2, z_3, z_4, z_5, z_6, z_7, z_8, z_9, z_10, z_11, z_12, z_14, z_18, z_20, z_22, z_24, z_32, z_38, z_40, z_41, z_44, z_48, z_49, z_57, z_59, z_60, z_63, z_65, z_74, z_75, z_81, z_97, z_99, z_104, z_115, z_119, z_122, z_200, z_209, z_210, z_219, z_228, z_255, z_300, z_369, z_999, z_65537, z_268435456, z_1000000000, n_nat, n_add, n_sub, n_mul, n_neg, n_lt, n_le, n_eq, n_ix, n_gd, n_nz, lz_t, bd_some, tn, Int.reduceToNat, tn_1, if_pos, if_neg, if_true, if_false, sI_a, sI_b, sL_a, sL_b, sL_c, wA_a, wA_b, wA_c, wA_d, wB_a, wB_b, wB_c, wB_d, sA_w, sB_w, uN_s, uN_n, up_s, up_n, ul_s, ul_n, p_fst, p_snd, r0, one]
            exact h1
          · simp (disch := omega) only [z_0, z_1, z_2, z_3, z_4, z_5, z_6, z_7, z_8, z_9, z_10, z_11, z_12, z_14, z_18, z_20, z_22, z_24, z_32, z_38, z_40, z_41, z_44, z_48, z_49, z_57, z_59, z_60, z_63, z_65, z_74, z_75, z_81, z_97, z_99, z_104, z_115, z_119, z_122, z_200, z_209, z_210, z_219, z_228, z_255, z_300, z_369, z_999, z_65537, z_268435456, z_1000000000, n_nat, n_add, n_sub, n_mul, n_neg, n_lt, n_le, n_eq, n_ix, n_gd, n_nz, lz_t, bd_some, tn, Int.reduceToNat, tn_1, if_pos, if_neg, if_true, if_false, sI_a, sI_b, sL_a, sL_b, sL_c, wA_a, wA_b, wA_c, wA_d, wB_a, wB_b, wB_c, wB_d, sA_w, sB_w, uN_s, uN_n, up_s, up_n, ul_s, ul_n, p_fst, p_snd, r0, one, b1]
            exact h1
        | false =>
          rw [if_neg (by decide)] at hk
          simp (disch := omega) only [z_0, z_1, z_2, z_3, z_4, z_5, z_6, z_7, z_8, z_9, z_10, z_11, z_12, z_14, z_18, z_20, z_22, z_24, z_32, z_38, z_40, z_41, z_44, z_48, z_49, z_57, z_59, z_60, z_63, z_65, z_74, z_75, z_81, z_97, z_99, z_104, z_115, z_119, z_122, z_200, z_209, z_210, z_219, z_228, z_255, z_300, z_369, z_999, z_65537, z_268435456, z_1000000000, n_nat, n_add, n_sub, n_mul, n_neg, n_lt, n_le, n_eq, n_ix, n_gd, n_nz, lz_t, bd_some, tn, Int.reduceToNat, tn_1, if_pos, if_neg, if_true, if_false, sI_a, sI_b, sL_a, sL_b, sL_c, wA_a, wA_b, wA_c, wA_d, wB_a, wB_b, wB_c, wB_d, sA_w, sB_w, uN_s, uN_n, up_s, up_n, ul_s, ul_n, p_fst, p_snd, r0, one]
          exact h1
      · intro j hj
        obtain ⟨a, b⟩ := h5 j hj
        rw [a, b]
        split
        · simp (disch := omega) only [sI_a, sI_b, sL_a, sL_b, sL_c, wA_a, wA_b, wA_c, wA_d, wB_a, wB_b, wB_c, wB_d, sA_w, sB_w, uN_s, uN_n, up_s, up_n, ul_s, ul_n, p_fst, p_snd]
          exact ⟨trivial, trivial⟩
        · exact ⟨rfl, rfl⟩
