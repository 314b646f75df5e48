/-! names -/
theorem AFT {F : Nat} (hF : 1000 ≤ F) {f : Nat → Int32} {e Lb : Nat} {sRd sMo : MS} (hE : RZ f e sRd sMo) (hD : RD f e Lb sRd sMo) (h13 : sMo.1 13 = 0) {lo hi : Int} (l1 : 0 ≤ lo) (l2 : lo ≤ 1) (l3 : 0 ≤ hi) (l4 : hi ≤ 999) {p : Nat} (hp : p < 15) : (∃ (v : Int) (sRd1 sRd' sMo' : MS), lo ≤ v ∧ v ≤ hi ∧ f_X7_passWord F 800 f p sRd = some (1, sRd1) ∧ f_X7_passWhole F 800 f (Int32.ofInt lo) (Int32.ofInt hi) sRd1 = some (1, sRd') ∧ sRd'.1 8 = Int32.ofInt v ∧ f_X11_after F (Int32.ofInt lo) (Int32.ofInt hi) p sMo = some (Int32.ofInt v, sMo') ∧ KD f e Lb sRd sMo sRd' sMo') ∨ (∃ sRd' sMo', (f_X7_passWord F 800 f p sRd = some (0, sRd') ∨ (∃ sRd1, f_X7_passWord F 800 f p sRd = some (1, sRd1) ∧ f_X7_passWhole F 800 f (Int32.ofInt lo) (Int32.ofInt hi) sRd1 = some (0, sRd'))) ∧ f_X11_after F (Int32.ofInt lo) (Int32.ofInt hi) p sMo = some (Int32.ofInt lo, sMo') ∧ BAD sRd' sMo' ∧ FX sMo sMo') := by
  unfold f_X11_after
  rcases ST_word hF hE hD h13 hp with ⟨sRd1, sMo1, z1, z2, z3, z4, z5⟩ | ⟨sRd1, sMo1, z1, z2, z3, z4⟩
  · rcases ST_whole hF (RZ_f hE z4 z5) z3 (by rw [z5.1 13 (by omega), h13]) l1 l2 l3 l4 with ⟨v, sRd2, sMo2, a1, a2, y1, y2, y3, y4, y5, y6⟩ | ⟨sRd2, sMo2, y1, y2, y3, y4⟩
    · exact Or.inl ⟨v, sRd1, sRd2, sMo2, a1, a2, z1, y1, y2, by rw [z2, bd_some, y3]; rfl, y4, FRw_t z4 y5, FMo_t z5 y6⟩
    · exact Or.inr ⟨sRd2, sMo2, Or.inr ⟨sRd1, z1, y1⟩, by rw [z2, bd_some, y2]; rfl, y3, FX_t (FX_m z5) y4⟩
  · exact Or.inr ⟨sRd1, sMo1, Or.inl z1, by rw [z2, bd_some, B_number z3.1]; rfl, z3, z4⟩
def NM (f : Nat → Int32) (e : Nat) (sRd : MS) (r : Nat → Int32) : Prop := ∀ n : Nat, (n : Int) < (r 5).toInt → ∃ a b : Nat, a ≤ b ∧ b ≤ e ∧ b ≤ a + 8 ∧ sRd.2.2.1 9 n = Int32.ofInt (a : Int) ∧ sRd.2.2.1 10 n = Int32.ofInt (b : Int) ∧ r (219 + n) = Int32.ofInt ((b - a : Nat) : Int) ∧ ∀ j, j < b - a → r (228 + (8 * n + j)) = f (a + j)
theorem same_go {F : Nat} {f : Nat → Int32} {sRd s : MS} {r : Nat → Int32} {a a0 m q : Nat} (hr : s.2.2.1 16 = r) (hq : q < 9) (ha : a + m ≤ 800) (ha0 : a0 + m ≤ 800) (hm : m ≤ 8) (h6 : sRd.1 6 = Int32.ofInt (a : Int)) (h9 : sRd.2.2.1 9 q = Int32.ofInt (a0 : Int)) (h8 : s.1 8 = Int32.ofInt (m : Int)) (hL : ∀ j, j < m → s.2.2.1 12 j = f (a + j)) (hN : ∀ j, j < m → r (228 + (8 * q + j)) = f (a0 + j)) (k2 : Int32 → Option Int32) : ∀ (d k n n2 : Nat), k + d = m → d < n → d < n2 → ∃ v : Bool, f_X7_isSameName_31 F sRd 800 f (Int32.ofInt (q : Int)) n (Int32.ofInt (m : Int)) (Int32.ofInt (k : Int)) = some (bi v) ∧ f_X11_find_37 F s k2 n2 (Int32.ofInt (q : Int)) 1 (Int32.ofInt (k : Int)) = f_X11_find_85 F s k2 (Int32.ofInt (q : Int)) (bi v) := by
  intro d
  induction d with
  | zero =>
    intro k n n2 hk hn hn2
    cases n with
    | zero => omega
    | succ n =>
      cases n2 with
      | zero => omega
      | succ n2 =>
        refine ⟨true, ?_, ?_⟩
        · rw [f_X7_isSameName_31, if_pos (by rw [n_le _ _ (by omega) (by omega) (by omega) (by omega)]; omega)]; rfl
        · rw [f_X11_find_37, h8, if_pos (by rw [n_le _ _ (by omega) (by omega) (by omega) (by omega)]; omega)]; rfl
  | succ d ih =>
    intro k n n2 hk hn hn2
    cases n with
    | zero => omega
    | succ n =>
      cases n2 with
      | zero => omega
      | succ n2 =>
        have e1 : (a : Int) + (k : Int) = ((a + k : Nat) : Int) := by omega
        have e0 : (a0 : Int) + (k : Int) = ((a0 + k : Nat) : Int) := by omega
        have e2 : (k : Int) + 1 = ((k + 1 : Nat) : Int) := by omega
        have e3 : (228 : Int) + 8 * (q : Int) + (k : Int) = ((228 + (8 * q + k) : Nat) : Int) := by omega
        have A : f_X7_isSameName_31 F sRd 800 f (Int32.ofInt (q : Int)) (n + 1) (Int32.ofInt (m : Int)) (Int32.ofInt (k : Int)) = (if f (a0 + k) = f (a + k) then f_X7_isSameName_31 F sRd 800 f (Int32.ofInt (q : Int)) n (Int32.ofInt (m : Int)) (Int32.ofInt ((k + 1 : Nat) : Int)) else some 0) := by
          rw [f_X7_isSameName_31]
          simp (disch := omega) only [z_0, z_1, z_2, z_3, z_4, z_5, z_6, z_7, z_8, z_9, z_10, z_11, z_12, z_14, z_18, z_20, z_22, z_24, z_32, z_38, z_40, z_41, z_44, z_48, z_49, z_57, z_59, z_60, z_63, z_65, z_74, z_75, z_81, z_97, z_99, z_104, z_115, z_119, z_122, z_200, z_209, z_210, z_219, z_228, z_255, z_300, z_369, z_999, z_65537, z_268435456, z_1000000000, n_add, n_le, n_ix, n_gd, lz_t, tn, if_neg, h6, h9, e1, e0, e2]
        have B : f_X11_find_37 F s k2 (n2 + 1) (Int32.ofInt (q : Int)) 1 (Int32.ofInt (k : Int)) = (if f (a0 + k) = f (a + k) then f_X11_find_37 F s k2 n2 (Int32.ofInt (q : Int)) 1 (Int32.ofInt ((k + 1 : Nat) : Int)) else f_X11_find_37 F s k2 n2 (Int32.ofInt (q : Int)) 0 (Int32.ofInt ((k + 1 : Nat) : Int))) := by
          rw [f_X11_find_37, h8, if_neg (by rw [n_le _ _ (by omega) (by omega) (by omega) (by omega)]; omega), if_neg (by decide), show (228 : Int32) = Int32.ofInt 228 from rfl, show (8 : Int32) = Int32.ofInt 8 from rfl, n_mul, n_add, n_add, e3, n_gd _ _ _ (by omega) (by omega) (by omega), n_ix _ (by omega) (by omega), tn, hr, lz_t, n_gd _ _ _ (by omega) (by omega) (by omega), n_ix _ (by omega) (by omega), tn, lz_t, hL k (by omega), hN k (by omega)]
          unfold f_X11_find_78
          rw [lz_t, lz_t, show (Int32.ofInt (k : Int) + 1) = Int32.ofInt ((k + 1 : Nat) : Int) from by rw [z_1, n_add, e2]]
        by_cases c : f (a0 + k) = f (a + k)
        · obtain ⟨v, z1, z2⟩ := ih (k + 1) n n2 (by omega) (by omega) (by omega)
          exact ⟨v, by rw [A, if_pos c, z1], by rw [B, if_pos c, z2]⟩
        · refine ⟨false, by rw [A, if_neg c]; rfl, ?_⟩
          rw [B, if_neg c]
          cases n2 with
          | zero => omega
          | succ n2 =>
            rw [f_X11_find_37, h8]
            by_cases c2 : m ≤ k + 1
            · rw [if_pos (by rw [n_le _ _ (by omega) (by omega) (by omega) (by omega)]; omega)]; rfl
            · rw [if_neg (by rw [n_le _ _ (by omega) (by omega) (by omega) (by omega)]; omega), if_pos rfl]; rfl
theorem find_go {F : Nat} (hF : 1000 ≤ F) {f : Nat → Int32} {e : Nat} {sRd sRo s : MS} {a b N : Nat} (he : e ≤ 800) (d1 : a < b) (d2 : b ≤ e) (d8 : b ≤ a + 8) (h6 : sRd.1 6 = Int32.ofInt (a : Int)) (h7 : sRd.1 7 = Int32.ofInt (b : Int)) (h8 : s.1 8 = Int32.ofInt ((b - a : Nat) : Int)) (hL : ∀ j, j < b - a → s.2.2.1 12 j = f (a + j)) (hN : NM f e sRd (s.2.2.1 16)) (hM : N ≤ 9) (r5 : s.2.2.1 16 5 = Int32.ofInt (N : Int)) (q5 : sRo.1 5 = Int32.ofInt (N : Int)) : ∀ (d k n n2 : Nat), k + d = N → d < n → d < n2 → ∃ z : Int, (z = -1 ∨ (0 ≤ z ∧ z < N)) ∧ f_X7_placeNamed_2 F sRd 800 f sRo n (Int32.ofInt (k : Int)) = some (Int32.ofInt z) ∧ f_X11_find_2 F s n2 (Int32.ofInt (k : Int)) = some (Int32.ofInt z) := by
  intro d
  induction d with
  | zero =>
    intro k n n2 hk hn hn2
    cases n with
    | zero => omega
    | succ n =>
      cases n2 with
      | zero => omega
      | succ n2 =>
        refine ⟨-1, Or.inl rfl, ?_, ?_⟩
        · rw [f_X7_placeNamed_2, q5, if_pos (by rw [n_le _ _ (by omega) (by omega) (by omega) (by omega)]; omega)]; rfl
        · rw [f_X11_find_2]
          simp (disch := omega) only [z_0, z_1, z_2, z_3, z_4, z_5, z_6, z_7, z_8, z_9, z_10, z_11, z_12, z_14, z_18, z_20, z_22, z_24, z_32, z_38, z_40, z_41, z_44, z_48, z_49, z_57, z_59, z_60, z_63, z_65, z_74, z_75, z_81, z_97, z_99, z_104, z_115, z_119, z_122, z_200, z_209, z_210, z_219, z_228, z_255, z_300, z_369, z_999, z_65537, z_268435456, z_1000000000, n_nat, n_add, n_sub, n_mul, n_neg, n_lt, n_le, n_eq, n_ix, n_gd, n_nz, lz_t, bd_some, tn, Int.reduceToNat, tn_1, if_pos, if_neg, if_true, if_false, r5]
  | succ d ih =>
    intro k n n2 hk hn hn2
    cases n with
    | zero => omega
    | succ n =>
      cases n2 with
      | zero => omega
      | succ n2 =>
        obtain ⟨a0, b0, g1, g2, g3, g4, g5, g6, g7⟩ := hN k (by rw [r5, n_toI _ (by omega) (by omega)]; omega)
        have e2 : (k : Int) + 1 = ((k + 1 : Nat) : Int) := by omega
        have e3 : (219 : Int) + (k : Int) = ((219 + k : Nat) : Int) := by omega
        have A : f_X7_placeNamed_2 F sRd 800 f sRo (n + 1) (Int32.ofInt (k : Int)) = bd (f_X7_isSameName F sRd 800 f (Int32.ofInt (k : Int))) fun o2 => if o2 = (0 : Int32) then f_X7_placeNamed_2 F sRd 800 f sRo n (Int32.ofInt (k : Int) + 1) else some (Int32.ofInt (k : Int)) := by
          rw [f_X7_placeNamed_2, q5, if_neg (by rw [n_le _ _ (by omega) (by omega) (by omega) (by omega)]; omega)]
          rfl
        have B : f_X11_find_2 F s (n2 + 1) (Int32.ofInt (k : Int)) = f_X11_find_34 F s (f_X11_find_2 F s n2) (Int32.ofInt (k : Int)) (if b0 - a0 = b - a then 1 else 0) := by
          rw [f_X11_find_2]
          by_cases c : b0 - a0 = b - a
          · rw [if_pos c]
            simp (disch := omega) only [z_0, z_1, z_2, z_3, z_4, z_5, z_6, z_7, z_8, z_9, z_10, z_11, z_12, z_14, z_18, z_20, z_22, z_24, z_32, z_38, z_40, z_41, z_44, z_48, z_49, z_57, z_59, z_60, z_63, z_65, z_74, z_75, z_81, z_97, z_99, z_104, z_115, z_119, z_122, z_200, z_209, z_210, z_219, z_228, z_255, z_300, z_369, z_999, z_65537, z_268435456, z_1000000000, n_nat, n_add, n_sub, n_mul, n_neg, n_lt, n_le, n_eq, n_ix, n_gd, n_nz, lz_t, bd_some, tn, Int.reduceToNat, tn_1, if_pos, if_neg, if_true, if_false, r5, e3, g6, h8]
          · rw [if_neg c]
            simp (disch := omega) only [z_0, z_1, z_2, z_3, z_4, z_5, z_6, z_7, z_8, z_9, z_10, z_11, z_12, z_14, z_18, z_20, z_22, z_24, z_32, z_38, z_40, z_41, z_44, z_48, z_49, z_57, z_59, z_60, z_63, z_65, z_74, z_75, z_81, z_97, z_99, z_104, z_115, z_119, z_122, z_200, z_209, z_210, z_219, z_228, z_255, z_300, z_369, z_999, z_65537, z_268435456, z_1000000000, n_nat, n_add, n_sub, n_mul, n_neg, n_lt, n_le, n_eq, n_ix, n_gd, n_nz, lz_t, bd_some, tn, Int.reduceToNat, tn_1, if_pos, if_neg, if_true, if_false, r5, e3, g6, h8]
        have C : f_X7_isSameName F sRd 800 f (Int32.ofInt (k : Int)) = (if b0 - a0 = b - a then f_X7_isSameName_31 F sRd 800 f (Int32.ofInt (k : Int)) F (Int32.ofInt ((b - a : Nat) : Int)) (Int32.ofInt 0) else some (Int32.ofInt 0)) := by
          unfold f_X7_isSameName
          have e5 : (b0 : Int) - (a0 : Int) = ((b0 - a0 : Nat) : Int) := by omega
          have e6 : (b : Int) - (a : Int) = ((b - a : Nat) : Int) := by omega
          by_cases c : b0 - a0 = b - a
          · rw [if_pos c]
            simp (disch := omega) only [z_0, z_1, z_2, z_3, z_4, z_5, z_6, z_7, z_8, z_9, z_10, z_11, z_12, z_14, z_18, z_20, z_22, z_24, z_32, z_38, z_40, z_41, z_44, z_48, z_49, z_57, z_59, z_60, z_63, z_65, z_74, z_75, z_81, z_97, z_99, z_104, z_115, z_119, z_122, z_200, z_209, z_210, z_219, z_228, z_255, z_300, z_369, z_999, z_65537, z_268435456, z_1000000000, n_nat, n_add, n_sub, n_mul, n_neg, n_lt, n_le, n_eq, n_ix, n_gd, n_nz, lz_t, bd_some, tn, Int.reduceToNat, tn_1, if_pos, if_neg, if_true, if_false, g4, g5, h6, h7, e5, e6]
            rw [c]
          · rw [if_neg c]
            simp (disch := omega) only [z_0, z_1, z_2, z_3, z_4, z_5, z_6, z_7, z_8, z_9, z_10, z_11, z_12, z_14, z_18, z_20, z_22, z_24, z_32, z_38, z_40, z_41, z_44, z_48, z_49, z_57, z_59, z_60, z_63, z_65, z_74, z_75, z_81, z_97, z_99, z_104, z_115, z_119, z_122, z_200, z_209, z_210, z_219, z_228, z_255, z_300, z_369, z_999, z_65537, z_268435456, z_1000000000, n_nat, n_add, n_sub, n_mul, n_neg, n_lt, n_le, n_eq, n_ix, n_gd, n_nz, lz_t, bd_some, tn, Int.reduceToNat, tn_1, if_pos, if_neg, if_true, if_false, g4, g5, h6, h7, e5, e6]
        obtain ⟨z, w1, w2, w3⟩ := ih (k + 1) n n2 (by omega) (by omega) (by omega)
        have fin : ∀ v : Bool, f_X7_isSameName F sRd 800 f (Int32.ofInt (k : Int)) = some (bi v) → f_X11_find_34 F s (f_X11_find_2 F s n2) (Int32.ofInt (k : Int)) (if b0 - a0 = b - a then 1 else 0) = f_X11_find_85 F s (f_X11_find_2 F s n2) (Int32.ofInt (k : Int)) (bi v) → ∃ z : Int, (z = -1 ∨ (0 ≤ z ∧ z < N)) ∧ f_X7_placeNamed_2 F sRd 800 f sRo (n + 1) (Int32.ofInt (k : Int)) = some (Int32.ofInt z) ∧ f_X11_find_2 F s (n2 + 1) (Int32.ofInt (k : Int)) = some (Int32.ofInt z) := by
          intro v v1 v2
          rw [A, B, v1, v2, bd_some]
          unfold f_X11_find_85
          cases v with
          | false => exact ⟨z, w1, by rw [if_pos (show bi false = 0 from rfl), show (Int32.ofInt (k : Int) + 1) = Int32.ofInt ((k + 1 : Nat) : Int) from by rw [z_1, n_add, e2], w2], by rw [if_pos (show bi false = 0 from rfl), lz_t, show (Int32.ofInt (k : Int) + 1) = Int32.ofInt ((k + 1 : Nat) : Int) from by rw [z_1, n_add, e2], w3]⟩
          | true => exact ⟨k, Or.inr ⟨by omega, by omega⟩, by rw [if_neg (by decide)], by rw [if_neg (by decide)]⟩
        by_cases c : b0 - a0 = b - a
        · obtain ⟨v, v1, v2⟩ := same_go (F := F) (f := f) (sRd := sRd) (s := s) (r := s.2.2.1 16) (a := a) (a0 := a0) (m := b - a) (q := k) rfl (by omega) (by omega) (by omega) (by omega) h6 g4 h8 hL (fun j hj => g7 j (by omega)) (f_X11_find_2 F s n2) (b - a) 0 F F (by omega) (by omega) (by omega)
          refine fin v ?_ ?_
          · rw [C, if_pos c]; exact v1
          · rw [if_pos c]; exact v2
        · refine fin false ?_ ?_
          · rw [C, if_neg c]; rfl
          · rw [if_neg c]
            unfold f_X11_find_34
            cases F with
            | zero => omega
            | succ F =>
              rw [f_X11_find_37, h8, if_neg (by rw [z_0, n_le _ _ (by omega) (by omega) (by omega) (by omega)]; omega), if_pos rfl]; rfl
