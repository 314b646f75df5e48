/-! the line of the way: its loop -/
theorem WI_s {N i : Nat} {r0 r : Nat → Int32} {s0 s : MS} (h : WI N i r0 r s0 s) (N9 : N ≤ 9) (i9 : i < 9) {z y : Nat} (hz : z < N) (hy : (i = 0 ∧ y = 0) ∨ (∃ w u : Nat, 0 < i ∧ r (200 + (i - 1)) = Int32.ofInt (w : Int) ∧ w < N ∧ s.2.2.1 16 (i - 1) = Int32.ofInt (u : Int) ∧ u ≤ 40 * (i - 1) ∧ 0 < (r (38 + (9 * w + z))).toInt ∧ (r (38 + (9 * w + z))).toInt ≤ 40 ∧ (y : Int) = u + (r (38 + (9 * w + z))).toInt)) : WI N (i + 1) r0 (upd r (200 + i) (Int32.ofInt (z : Int))) s0 (sA (sA s 15 i (Int32.ofInt (z : Int))) 16 i (Int32.ofInt (y : Int))) := by
  obtain ⟨a1, a2, a3, a4, a5, a6, a7, a8⟩ := h
  have b15 : (sA (sA s 15 i (Int32.ofInt (z : Int))) 16 i (Int32.ofInt (y : Int))).2.2.1 15 = upd (s.2.2.1 15) i (Int32.ofInt (z : Int)) := by rw [sA_n _ _ _ _ _ (by decide), sA_u]
  have b16 : (sA (sA s 15 i (Int32.ofInt (z : Int))) 16 i (Int32.ofInt (y : Int))).2.2.1 16 = upd (s.2.2.1 16) i (Int32.ofInt (y : Int)) := by rw [sA_u, sA_n _ _ _ _ _ (by decide)]
  have y40 : y ≤ 40 * i := by
    rcases hy with ⟨h1, h2⟩ | ⟨w, u, h1, h2, h3, h4, h5, h6, h7, h8⟩ <;> omega
  have old : ∀ j, j + 1 < i → upd r (200 + i) (Int32.ofInt (z : Int)) (38 + (9 * (upd r (200 + i) (Int32.ofInt (z : Int)) (200 + j)).toNatClampNeg + (upd r (200 + i) (Int32.ofInt (z : Int)) (200 + (j + 1))).toNatClampNeg)) = r (38 + (9 * (r (200 + j)).toNatClampNeg + (r (200 + (j + 1))).toNatClampNeg)) := by
    intro j hj
    rw [up_n _ _ _ _ (show 200 + j ≠ 200 + i by omega), up_n _ _ _ _ (show 200 + (j + 1) ≠ 200 + i by omega)]
    obtain ⟨w, w1, w2, -⟩ := a4 j (by omega)
    obtain ⟨v, v1, v2, -⟩ := a4 (j + 1) (by omega)
    rw [w2, v2, n_ix _ (by omega) (by omega), n_ix _ (by omega) (by omega), tn, tn, up_n _ _ _ _ (by omega)]
  have new : ∀ j, j + 1 = i → ∃ w u : Nat, s.2.2.1 16 j = Int32.ofInt (u : Int) ∧ u ≤ 40 * j ∧ 0 < (r (38 + (9 * w + z))).toInt ∧ (y : Int) = u + (r (38 + (9 * w + z))).toInt ∧ upd r (200 + i) (Int32.ofInt (z : Int)) (38 + (9 * (upd r (200 + i) (Int32.ofInt (z : Int)) (200 + j)).toNatClampNeg + (upd r (200 + i) (Int32.ofInt (z : Int)) (200 + (j + 1))).toNatClampNeg)) = r (38 + (9 * w + z)) := by
    intro j hj
    rcases hy with ⟨h1, h2⟩ | ⟨w, u, h1, h2, h3, h4, h5, h6, h7, h8⟩
    · omega
    · rw [show i - 1 = j by omega] at h2 h4 h5
      refine ⟨w, u, h4, h5, h6, h8, ?_⟩
      rw [up_n _ _ _ _ (show 200 + j ≠ 200 + i by omega), hj, up_s, h2, n_ix _ (by omega) (by omega), n_ix _ (by omega) (by omega), tn, tn, up_n _ _ _ _ (by omega)]
  refine ⟨fun k hk => by rw [up_n _ _ _ _ (by omega), a1 k hk], a2, fun a h1 h2 => by rw [sA_n _ _ _ _ _ h2, sA_n _ _ _ _ _ h1, a3 a h1 h2], ?_, ?_, ?_, ?_, ?_⟩
  · intro j hj
    rw [b15]
    by_cases c : j = i
    · subst c
      exact ⟨z, hz, up_s _ _ _, up_s _ _ _⟩
    · rw [up_n _ _ _ _ (by omega), up_n _ _ _ _ c]
      exact a4 j (by omega)
  · intro j hj
    by_cases c : j + 1 = i
    · obtain ⟨w, u, g1, g2, g3, g4, g5⟩ := new j c
      rw [g5]
      exact g3
    · rw [old j (by omega)]
      exact a5 j (by omega)
  · intro _
    rw [b16]
    by_cases c : i = 0
    · subst c
      rw [up_s]
      rcases hy with ⟨h1, h2⟩ | ⟨w, u, h1, -⟩
      · rw [h2]; rfl
      · omega
    · rw [up_n _ _ _ _ (by omega)]
      exact a6 (by omega)
  · intro j hj
    rw [b16]
    by_cases c : j = i
    · subst c
      exact ⟨y, y40, up_s _ _ _⟩
    · rw [up_n _ _ _ _ c]
      exact a7 j (by omega)
  · intro j hj
    rw [b16]
    by_cases c : j + 1 = i
    · obtain ⟨w, u, g1, g2, g3, g4, g5⟩ := new j c
      rw [g5, c, up_s, up_n _ _ _ _ (by omega), g1, n_toI _ (by omega) (by omega), n_toI _ (by omega) (by omega)]
      exact g4
    · rw [old j (by omega), up_n _ _ _ _ (by omega), up_n _ _ _ _ (by omega)]
      exact a8 j (by omega)
theorem B_way86 {F : Nat} {s : MS} {k : Int32 → Int32 → MS → Option MS} {x y : Int32} (h : s.1 13 = Int32.ofInt 1) : f_X11_wayLine_86 F k x y s = some s := by
  unfold f_X11_wayLine_86 f_X11_wayLine_135
  rw [h, if_neg (by decide), if_neg (by decide)]
theorem B_way135 {F : Nat} {s : MS} {k : Int32 → Int32 → MS → Option MS} {x y : Int32} (h : s.1 13 = Int32.ofInt 1) : f_X11_wayLine_135 F k x y s = some s := by
  unfold f_X11_wayLine_135
  rw [h, if_neg (by decide)]
