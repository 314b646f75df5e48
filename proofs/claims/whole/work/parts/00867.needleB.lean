/-! bits of a long's two halves -/
theorem lo32 (u : Int64) {i : Nat} (hi : i < 32) : b32 u.toInt32 i = b64 u i := by
  unfold b32 b64
  show (u.toBitVec.signExtend 32).getLsbD i = _
  rw [BitVec.getLsbD_signExtend, decide_eq_true hi, if_pos (by omega), Bool.true_and]
def hi32 (u : Int64) : Int32 := ((u.toUInt64 >>> ((32 : Int32).toInt64.toUInt64 &&& Int64.toUInt64 63)).toInt64).toInt32
theorem hi32_b (u : Int64) {i : Nat} (hi : i < 32) : b32 (hi32 u) i = b64 u (32 + i) := by
  unfold hi32
  rw [lo32 _ hi]
  unfold b64
  show ((u.toUInt64 >>> ((32 : Int32).toInt64.toUInt64 &&& Int64.toUInt64 63)).toNat).testBit i = (u.toBitVec.toNat).testBit (32 + i)
  rw [UInt64.toNat_shiftRight]
  have : ((32 : Int32).toInt64.toUInt64 &&& Int64.toUInt64 63).toNat % 64 = 32 := by decide
  rw [this, Nat.testBit_shiftRight]
  rfl
theorem zero32 {x : Int32} (h : ∀ i, i < 32 → b32 x i = false) : x = 0 := by
  rw [← Int32.toBitVec_inj]
  apply BitVec.eq_of_getLsbD_eq
  intro i hi
  have := h i hi
  unfold b32 at this
  rw [this]
  show false = (0#32).getLsbD i
  simp
theorem ne32 {x : Int32} {i : Nat} (h : b32 x i = true) : x ≠ 0 := by
  intro e
  rw [e] at h
  unfold b32 at h
  have : (0#32).getLsbD i = true := h
  simp at this
theorem ntz64 {F : Nat} {u : Int64} {l : Nat} (hl : l < 64) (h1 : b64 u l = true) (h0 : ∀ j, j < l → b64 u j = false) : f_J13_numberOfTrailingZeros_95d88 F u = some (Int32.ofInt (l : Int)) := by
  unfold f_J13_numberOfTrailingZeros_95d88
  by_cases c : l < 32
  · have n := ne32 (x := u.toInt32) (i := l) (by rw [lo32 u c]; exact h1)
    rw [if_neg n, ntz_e c (by rw [lo32 u c]; exact h1) (fun j hj => by rw [lo32 u (by omega)]; exact h0 j hj), bd_some]
  · have z : u.toInt32 = 0 := zero32 (fun i hi => by rw [lo32 u hi]; exact h0 i (by omega))
    rw [if_pos z, lz_t]
    have e : f_J6_numberOfTrailingZeros_0f7a4 F (hi32 u) = some (Int32.ofInt ((l - 32 : Nat) : Int)) := ntz_e (by omega) (by
      rw [hi32_b u (by omega), show 32 + (l - 32) = l by omega]; exact h1) (fun j hj => by
      rw [hi32_b u (by omega)]; exact h0 _ (by omega))
    have e' : f_J6_numberOfTrailingZeros_0f7a4 F ((u.toUInt64 >>> ((32 : Int32).toInt64.toUInt64 &&& Int64.toUInt64 63)).toInt64).toInt32 = _ := e
    rw [e', bd_some, z_32, n_add]
    congr 2
    omega
theorem nlz32_e {F : Nat} {x : Int32} {l : Nat} (hl : l < 32) (h1 : b32 x l = true) (h0 : ∀ j, l < j → j < 32 → b32 x j = false) : f_J6_numberOfLeadingZeros_0f7a4 F x = some (Int32.ofInt (31 - (l : Int))) := by
  have lo : 2 ^ l ≤ x.toBitVec.toNat := Nat.ge_two_pow_of_testBit h1
  by_cases c : l = 31
  · subst c
    have neg : x.toInt < 0 := by
      have xb := x.toBitVec.isLt
      show x.toBitVec.toInt < 0
      rw [BitVec.toInt_eq_toNat_cond]
      split <;> omega
    unfold f_J6_numberOfLeadingZeros_0f7a4
    have a : ¬ (0 : Int32) < x := by
      rw [i_lt]
      have : (0 : Int32).toInt = 0 := rfl
      omega
    rw [if_neg a, if_neg (ne32 h1)]
    rfl
  · have up : x.toBitVec.toNat < 2 ^ (l + 1) := by
      apply Nat.lt_pow_two_of_testBit
      intro j hj
      by_cases cj : j < 32
      · exact h0 j (by omega) cj
      · exact BitVec.getLsbD_of_ge x.toBitVec j (by omega)
    have e : x = Int32.ofInt ((x.toBitVec.toNat : Nat) : Int) := by
      rw [← Int32.toBitVec_inj]
      show x.toBitVec = BitVec.ofInt 32 ((x.toBitVec.toNat : Nat) : Int)
      rw [BitVec.ofInt_natCast]
      simp
    rw [e]
    exact nlz_e l (by omega) lo up
theorem nlz64 {F : Nat} {u : Int64} {l : Nat} (hl : l < 64) (h1 : b64 u l = true) (h0 : ∀ j, l < j → j < 64 → b64 u j = false) : f_J13_numberOfLeadingZeros_95d88 F u = some (Int32.ofInt (63 - (l : Int))) := by
  unfold f_J13_numberOfLeadingZeros_95d88
  rw [lz_t]
  by_cases c : l < 32
  · have z : hi32 u = 0 := zero32 (fun i hi => by rw [hi32_b u hi]; exact h0 _ (by omega) (by omega))
    have z' : ((u.toUInt64 >>> ((32 : Int32).toInt64.toUInt64 &&& Int64.toUInt64 63)).toInt64).toInt32 = 0 := z
    rw [if_pos z', nlz32_e c (by rw [lo32 u c]; exact h1) (fun j hj hj2 => by rw [lo32 u hj2]; exact h0 j hj (by omega)), bd_some, z_32, n_add]
    congr 2
    omega
  · have hb : b32 (hi32 u) (l - 32) = true := by rw [hi32_b u (by omega), show 32 + (l - 32) = l by omega]; exact h1
    have n : ¬ ((u.toUInt64 >>> ((32 : Int32).toInt64.toUInt64 &&& Int64.toUInt64 63)).toInt64).toInt32 = 0 := ne32 hb
    have e : f_J6_numberOfLeadingZeros_0f7a4 F (hi32 u) = some (Int32.ofInt (31 - ((l - 32 : Nat) : Int))) := nlz32_e (by omega) hb (fun j hj hj2 => by
      rw [hi32_b u hj2]; exact h0 _ (by omega) (by omega))
    have e' : f_J6_numberOfLeadingZeros_0f7a4 F ((u.toUInt64 >>> ((32 : Int32).toInt64.toUInt64 &&& Int64.toUInt64 63)).toInt64).toInt32 = _ := e
    rw [if_neg n, e', bd_some]
    congr 2
    omega
/-! needle -/
def loB (P : Nat → Bool) : Nat → Int
  | 0 => -2
  | n + 1 => if loB P n = -2 then (if P n then (n : Int) else -2) else loB P n
def hiB (P : Nat → Bool) : Nat → Int
  | 0 => -2
  | n + 1 => if P n then (n : Int) else hiB P n
theorem loB_p (P : Nat → Bool) : ∀ n, (loB P n = -2 ∧ ∀ j, j < n → P j = false) ∨ (∃ l, l < n ∧ loB P n = (l : Int) ∧ P l = true ∧ ∀ j, j < l → P j = false)
  | 0 => Or.inl ⟨rfl, fun j hj => by omega⟩
  | n + 1 => by
    have e : loB P (n + 1) = if loB P n = -2 then (if P n then (n : Int) else -2) else loB P n := rfl
    rcases loB_p P n with ⟨a, b⟩ | ⟨l, a, b, c, d⟩
    · rw [e, if_pos a]
      cases cp : P n with
      | true => exact Or.inr ⟨n, by omega, rfl, cp, b⟩
      | false =>
        refine Or.inl ⟨rfl, fun j hj => ?_⟩
        by_cases ej : j = n
        · rw [ej]; exact cp
        · exact b j (by omega)
    · rw [e, if_neg (by omega)]
      exact Or.inr ⟨l, by omega, b, c, d⟩
theorem hiB_p (P : Nat → Bool) : ∀ n, (hiB P n = -2 ∧ ∀ j, j < n → P j = false) ∨ (∃ l, l < n ∧ hiB P n = (l : Int) ∧ P l = true ∧ ∀ j, l < j → j < n → P j = false)
  | 0 => Or.inl ⟨rfl, fun j hj => by omega⟩
  | n + 1 => by
    have e : hiB P (n + 1) = if P n then (n : Int) else hiB P n := rfl
    cases cp : P n with
    | true => rw [e, cp, if_pos rfl]; exact Or.inr ⟨n, by omega, rfl, cp, fun j h1 h2 => by omega⟩
    | false =>
      rw [e, cp, if_neg (by decide)]
      rcases hiB_p P n with ⟨a, b⟩ | ⟨l, a, b, c, d⟩
      · refine Or.inl ⟨a, fun j hj => ?_⟩
        by_cases ej : j = n
        · rw [ej]; exact cp
        · exact b j (by omega)
      · refine Or.inr ⟨l, by omega, b, c, fun j h1 h2 => ?_⟩
        by_cases ej : j = n
        · rw [ej]; exact cp
        · exact d j h1 (by omega)
theorem nd22 {F : Nat} (hF : 100 ≤ F) {sRo : MS} {r : Nat → Int32} (hR : RR sRo r) (h : ROK r) (p : Int32) {sRe sRe' : MS} (hse : f_X8_search F sRo (-1) sRe = some sRe') : ∀ (d k n : Nat) (s : MS), k + d = nT r + 1 → d < n → s.2.2.1 15 = r →
    ∃ s', f_X11_needle_22 F p n (Int32.ofInt (if p = 0 then loB (b64 (sRe'.2.1 3)) k else hiB (b64 (sRe'.2.1 3)) k)) (Int32.ofInt (k : Int)) s = some (Int32.ofInt (if p = 0 then loB (b64 (sRe'.2.1 3)) (nT r + 1) else hiB (b64 (sRe'.2.1 3)) (nT r + 1)), s') ∧ KP s s' := by
  obtain ⟨c1, c2, c3, c4, c5⟩ := nTP h
  intro d
  induction d with
  | zero =>
    intro k n s hk hn hr
    cases n with
    | zero => omega
    | succ n =>
      have : k = nT r + 1 := hk
      subst this
      have r0 : s.2.2.1 15 0 = Int32.ofInt (rd r 0) := by rw [hr]; exact rd_e r 0
      refine ⟨s, ?_, KP_r s⟩
      rw [f_X11_needle_22]
      simp (disch := omega) only [n_gd, n_ix, Int.reduceToNat, lz_t, z_0, n_lt, r0, if_pos]
  | succ d ih =>
    intro k n s hk hn hr
    cases n with
    | zero => omega
    | succ n =>
      have r0 : s.2.2.1 15 0 = Int32.ofInt (rd r 0) := by rw [hr]; exact rd_e r 0
      obtain ⟨sR, s1, e1, e2, e3, e4, e5⟩ := se_e (F := F) hF hR h (f := k) (by omega) (-1) sRe s hr
      have : sR = sRe' := by
        rw [hse] at e1
        exact (Option.some.inj e1).symm
      subst this
      obtain ⟨b1, ⟨m, m1, m2⟩, -, -⟩ := e3
      obtain ⟨s', z1, z2⟩ := ih (k + 1) n s1 (by omega) (by omega) ((e4.2 15 (by omega)).trans hr)
      refine ⟨s', ?_, KP_t e4 z2⟩
      have e2' : f_X11_seekWays F (Int32.ofInt (k : Int)) (Int32.ofInt (-1)) s = some s1 := e2
      have eL : loB (b64 (sR.2.1 3)) (k + 1) = if loB (b64 (sR.2.1 3)) k = -2 then (if b64 (sR.2.1 3) k then (k : Int) else -2) else loB (b64 (sR.2.1 3)) k := rfl
      have eH : hiB (b64 (sR.2.1 3)) (k + 1) = if b64 (sR.2.1 3) k then (k : Int) else hiB (b64 (sR.2.1 3)) k := rfl
      rw [← z1, f_X11_needle_22]
      by_cases c0 : m = 0
      · have bk : b64 (sR.2.1 3) k = false := by
          rw [b1, m2, c0]
          rfl
        rw [eL, eH, bk, if_neg (c := false = true) (by decide), if_neg (c := false = true) (by decide)]
        have eq : (if loB (b64 (sR.2.1 3)) k = -2 then -2 else loB (b64 (sR.2.1 3)) k) = loB (b64 (sR.2.1 3)) k := by
          by_cases q : loB (b64 (sR.2.1 3)) k = -2
          · rw [if_pos q, q]
          · rw [if_neg q]
        rw [eq]
        simp (disch := omega) only [n_gd, n_ix, Int.reduceToNat, lz_t, bd_some, z_0, z_1, n_m1, n_neg, n_add, n_lt, n_le, r0, e2', m2, if_pos, if_neg, f_X11_needle_57]
        rfl
      · have bk : b64 (sR.2.1 3) k = true := by
          have ne : ¬ s1.1 36 = 0 := by
            rw [m2, z_0, n_eq _ _ (by omega) (by omega) (by omega) (by omega)]
            omega
          rw [b1, decide_eq_false ne]
          rfl
        rw [eL, eH, bk, if_pos rfl]
        have qL : loB (b64 (sR.2.1 3)) k = -2 ∨ (0 ≤ loB (b64 (sR.2.1 3)) k ∧ loB (b64 (sR.2.1 3)) k < k) := by
          rcases loB_p (b64 (sR.2.1 3)) k with ⟨a, -⟩ | ⟨l, a, b, -, -⟩
          · exact Or.inl a
          · right; omega
        have qH : hiB (b64 (sR.2.1 3)) k = -2 ∨ (0 ≤ hiB (b64 (sR.2.1 3)) k ∧ hiB (b64 (sR.2.1 3)) k < k) := by
          rcases hiB_p (b64 (sR.2.1 3)) k with ⟨a, -⟩ | ⟨l, a, b, -, -⟩
          · exact Or.inl a
          · right; omega
        by_cases cp : p = 0
        · have cp' : p = Int32.ofInt 0 := cp
          rw [if_pos cp, if_pos cp]
          by_cases q : loB (b64 (sR.2.1 3)) k = -2
          · rw [if_pos q, q]
            simp (disch := omega) only [z_0, z_1, z_2, z_3, z_4, z_5, z_6, z_7, z_8, z_9, z_10, z_11, z_12, z_14, z_18, z_20, z_22, z_24, z_32, z_38, z_40, z_41, z_44, z_48, z_49, z_57, z_59, z_60, z_63, z_65, z_74, z_75, z_81, z_97, z_99, z_104, z_115, z_119, z_122, z_200, z_209, z_210, z_219, z_228, z_255, z_300, z_369, z_999, z_65537, z_268435456, z_1000000000, n_nat, n_add, n_sub, n_mul, n_neg, n_lt, n_le, n_eq, n_ix, n_gd, n_nz, lz_t, bd_some, tn, Int.reduceToNat, tn_1, if_pos, if_neg, if_true, if_false, r0, e2', m2, n_m1, f_X11_needle_57, f_X11_needle_55]
            rfl
          · rw [if_neg q]
            simp (disch := omega) only [z_0, z_1, z_2, z_3, z_4, z_5, z_6, z_7, z_8, z_9, z_10, z_11, z_12, z_14, z_18, z_20, z_22, z_24, z_32, z_38, z_40, z_41, z_44, z_48, z_49, z_57, z_59, z_60, z_63, z_65, z_74, z_75, z_81, z_97, z_99, z_104, z_115, z_119, z_122, z_200, z_209, z_210, z_219, z_228, z_255, z_300, z_369, z_999, z_65537, z_268435456, z_1000000000, n_nat, n_add, n_sub, n_mul, n_neg, n_lt, n_le, n_eq, n_ix, n_gd, n_nz, lz_t, bd_some, tn, Int.reduceToNat, tn_1, if_pos, if_neg, if_true, if_false, r0, e2', m2, n_m1, f_X11_needle_57, f_X11_needle_55, if_pos cp']
            rfl
        · have cp' : ¬ p = Int32.ofInt 0 := cp
          rw [if_neg cp, if_neg cp]
          by_cases q : hiB (b64 (sR.2.1 3)) k = -2
          · rw [q]
            simp (disch := omega) only [z_0, z_1, z_2, z_3, z_4, z_5, z_6, z_7, z_8, z_9, z_10, z_11, z_12, z_14, z_18, z_20, z_22, z_24, z_32, z_38, z_40, z_41, z_44, z_48, z_49, z_57, z_59, z_60, z_63, z_65, z_74, z_75, z_81, z_97, z_99, z_104, z_115, z_119, z_122, z_200, z_209, z_210, z_219, z_228, z_255, z_300, z_369, z_999, z_65537, z_268435456, z_1000000000, n_nat, n_add, n_sub, n_mul, n_neg, n_lt, n_le, n_eq, n_ix, n_gd, n_nz, lz_t, bd_some, tn, Int.reduceToNat, tn_1, if_pos, if_neg, if_true, if_false, r0, e2', m2, n_m1, f_X11_needle_57, f_X11_needle_55]
            rfl
          · simp (disch := omega) only [z_0, z_1, z_2, z_3, z_4, z_5, z_6, z_7, z_8, z_9, z_10, z_11, z_12, z_14, z_18, z_20, z_22, z_24, z_32, z_38, z_40, z_41, z_44, z_48, z_49, z_57, z_59, z_60, z_63, z_65, z_74, z_75, z_81, z_97, z_99, z_104, z_115, z_119, z_122, z_200, z_209, z_210, z_219, z_228, z_255, z_300, z_369, z_999, z_65537, z_268435456, z_1000000000, n_nat, n_add, n_sub, n_mul, n_neg, n_lt, n_le, n_eq, n_ix, n_gd, n_nz, lz_t, bd_some, tn, Int.reduceToNat, tn_1, if_pos, if_neg, if_true, if_false, r0, e2', m2, n_m1, f_X11_needle_57, f_X11_needle_55, if_neg cp']
            rfl
theorem P_needle {F : Nat} (hF : 100 ≤ F) {sMn sRo sRe sMo : MS} (hR : RR sRo (sMo.2.2.1 15)) (H : HR (sMo.2.2.1 15) (sMo.1 14)) (p : Int32) :
    ∃ v sMn' sRe' sMo', f_X10_needle F sRo p sMn sRe = some (v, sMn', sRe') ∧ f_X11_needle F p sMo = some (v, sMo') ∧ TU sMn sMo sMn' sMo' := by
  unfold f_X10_needle f_X11_needle f_X10_needle_68
  rw [X9_isTold hR H, bd_some, X11_good', bd_some, gQ_14]
  rcases H with ⟨h1, h2⟩ | ⟨h1, h2⟩
  · obtain ⟨c1, c2, c3, c4, c5⟩ := nTP h2
    obtain ⟨sRe', s1, e1, -, e3, -, -⟩ := se_e (F := F) hF hR h2 (f := 0) (by omega) (-1) sRe (gQ sMo) (gQ_15 sMo)
    have hi := e3.2.2.1
    obtain ⟨s', z1, z2⟩ := nd22 (F := F) hF hR h2 p e1 (nT (sMo.2.2.1 15) + 1) 0 F (gQ sMo) (by omega) (by omega) (gQ_15 sMo)
    have z1' : f_X11_needle_22 F p F (-2) 0 (gQ sMo) = some (Int32.ofInt (if p = 0 then loB (b64 (sRe'.2.1 3)) (nT (sMo.2.2.1 15) + 1) else hiB (b64 (sRe'.2.1 3)) (nT (sMo.2.2.1 15) + 1)), s') := by
      rw [← z1]
      by_cases cp : p = 0
      · rw [if_pos cp]; rfl
      · rw [if_neg cp]; rfl
    rw [h1, if_neg (c := (1 : Int32) = 0) (by decide), if_neg (c := (1 : Int32) = 0) (by decide), e1, bd_some, z1']
    have pl := loB_p (b64 (sRe'.2.1 3)) (nT (sMo.2.2.1 15) + 1)
    have ph := hiB_p (b64 (sRe'.2.1 3)) (nT (sMo.2.2.1 15) + 1)
    have zero : (∀ j, j < nT (sMo.2.2.1 15) + 1 → b64 (sRe'.2.1 3) j = false) → sRe'.2.1 3 = 0 := by
      intro hz
      rw [← Int64.toBitVec_inj]
      apply BitVec.eq_of_getLsbD_eq
      intro i hi'
      have : b64 (sRe'.2.1 3) i = false := by
        by_cases c : i < nT (sMo.2.2.1 15) + 1
        · exact hz i c
        · exact hi i (by omega)
      unfold b64 at this
      rw [this]
      show false = (0#64).getLsbD i
      simp
    have nz : ∀ l, b64 (sRe'.2.1 3) l = true → ¬ lg_cmp (sRe'.2.1 3) (0 : Int64) = 0 := by
      intro l hl
      have ne : ¬ sRe'.2.1 3 = 0 := by
        intro e
        rw [e, b64_0] at hl
        exact absurd hl (by decide)
      unfold lg_cmp
      simp only [GT.gt]
      by_cases g : (0 : Int64) < sRe'.2.1 3
      · rw [if_pos g]; decide
      · rw [if_neg g, if_neg ne]; decide
    rcases pl with ⟨a, b⟩ | ⟨l, l1, l2, l3, l4⟩
    · have ez := zero b
      rcases ph with ⟨a', -⟩ | ⟨m, m1, -, m3, -⟩
      · rw [ez, if_pos (show lg_cmp (0 : Int64) 0 = 0 by decide), X10_accept, bd_some]
        refine ⟨-2, sI sMn 11 0, sRe', s', rfl, ?_, TU_k z2⟩
        rw [← ez]
        by_cases cp : p = 0
        · rw [if_pos cp, a]; rfl
        · rw [if_neg cp, a']; rfl
      · rw [b m m1] at m3
        exact absurd m3 (by decide)
    · rcases ph with ⟨-, b'⟩ | ⟨m, m1, m2, m3, m4⟩
      · rw [b' l l1] at l3
        exact absurd l3 (by decide)
      · rw [if_neg (nz l l3)]
        by_cases cp : p = 0
        · rw [if_pos cp, ntz64 (by omega) l3 l4, bd_some, X10_accept, bd_some]
          exact ⟨_, _, _, _, rfl, by rw [if_pos cp, l2], TU_k z2⟩
        · rw [if_neg cp, nlz64 (by omega) m3 (fun j h1 h2 => by
            by_cases c : j < nT (sMo.2.2.1 15) + 1
            · exact m4 j h1 c
            · exact hi j (by omega)), bd_some, X10_accept, bd_some]
          refine ⟨_, _, _, _, rfl, ?_, TU_k z2⟩
          rw [if_neg cp, m2, z_63, n_sub, show 63 - (63 - (m : Int)) = (m : Int) by omega]
  · rw [h1, if_pos rfl, if_pos rfl]
    exact ⟨_, _, _, _, rfl, rfl, TU_n (KP_r _) 1⟩
