/-! a road that is being read -/
def RoK (r : Nat → Int32) : Prop := ∀ a b, a < 9 → b < 9 → 0 ≤ (r (38 + (9 * a + b))).toInt ∧ (r (38 + (9 * a + b))).toInt ≤ 40 ∧ r (38 + (9 * a + b)) = r (38 + (9 * b + a)) ∧ (((r 5).toInt ≤ a ∨ a = b) → (r (38 + (9 * a + b))).toInt = 0)
def MiK (r : Nat → Int32) : Prop := ∀ k, k < 81 → 0 ≤ (r (119 + k)).toInt ∧ (r (119 + k)).toInt ≤ 99
def PuK (r : Nat → Int32) : Prop := ∀ p, p < 9 → (0 ≤ (r (11 + 3 * p)).toInt ∧ (r (11 + 3 * p)).toInt ≤ 99) ∧ (0 ≤ (r (12 + 3 * p)).toInt ∧ (r (12 + 3 * p)).toInt ≤ 99) ∧ (0 ≤ (r (13 + 3 * p)).toInt ∧ (r (13 + 3 * p)).toInt ≤ 9) ∧ (r (11 + 3 * p) = 0 → r (12 + 3 * p) = 0)
def WyK (r : Nat → Int32) : Prop := (∀ i : Nat, (i : Int) < (r 8).toInt → 0 ≤ (r (200 + i)).toInt ∧ (r (200 + i)).toInt < (r 5).toInt) ∧ (∀ i : Nat, (i : Int) + 1 < (r 8).toInt → 0 < (r (38 + (9 * (r (200 + i)).toNatClampNeg + (r (200 + (i + 1))).toNatClampNeg))).toInt)
def ReK (r : Nat → Int32) : Prop := ∀ k : Nat, (k : Int) < (r 9).toInt → (0 ≤ (r (209 + 2 * k)).toInt ∧ (r (209 + 2 * k)).toInt < (r 5).toInt) ∧ (1 ≤ (r (210 + 2 * k)).toInt ∧ (r (210 + 2 * k)).toInt ≤ 999) ∧ 0 < (r (11 + 3 * (r (209 + 2 * k)).toNatClampNeg)).toInt
def NuK (r : Nat → Int32) : Prop := (0 ≤ (r 5).toInt ∧ (r 5).toInt ≤ 9) ∧ (0 ≤ (r 6).toInt ∧ (r 6).toInt ≤ 14) ∧ (0 ≤ (r 7).toInt ∧ (r 7).toInt ≤ 8) ∧ ((r 8).toInt = 0 ∨ (2 ≤ (r 8).toInt ∧ (r 8).toInt ≤ 9)) ∧ (0 ≤ (r 9).toInt ∧ (r 9).toInt ≤ 5)
def CaK (r : Nat → Int32) : Prop := (r 10 = 0 ∧ ∀ k, k < 10 → r k = 0) ∨ (r 10 = 1 ∧ (1 ≤ (r 0).toInt ∧ (r 0).toInt ≤ 40) ∧ (0 ≤ (r 1).toInt ∧ (r 1).toInt ≤ (r 0).toInt) ∧ (0 ≤ (r 2).toInt ∧ (r 2).toInt ≤ 99) ∧ (0 ≤ (r 3).toInt ∧ (r 3).toInt ≤ 60) ∧ (0 ≤ (r 4).toInt ∧ (r 4).toInt ≤ 999))
def PK (r : Nat → Int32) : Prop :=
  (CaK r) ∧
  (NuK r) ∧
  (RoK r) ∧
  (MiK r) ∧
  (PuK r) ∧
  (WyK r) ∧
  (ReK r)
theorem PK.ca {r : Nat → Int32} (h : PK r) : CaK r := h.1
theorem PK.nu {r : Nat → Int32} (h : PK r) : NuK r := h.2.1
theorem PK.ro {r : Nat → Int32} (h : PK r) : RoK r := h.2.2.1
theorem PK.mi {r : Nat → Int32} (h : PK r) : MiK r := h.2.2.2.1
theorem PK.pu {r : Nat → Int32} (h : PK r) : PuK r := h.2.2.2.2.1
theorem PK.wy {r : Nat → Int32} (h : PK r) : WyK r := h.2.2.2.2.2.1
theorem PK.re {r : Nat → Int32} (h : PK r) : ReK r := h.2.2.2.2.2.2
def RP (s : MS) (r : Nat → Int32) : Prop :=
  (∀ k, k < 10 → s.1 k = r k) ∧
  (∀ k, k < 81 → s.2.2.1 10 k = r (38 + k)) ∧
  (∀ k, k < 81 → s.2.2.1 11 k = r (119 + k)) ∧
  (∀ p, p < 9 → s.2.2.1 12 p = r (11 + 3 * p) ∧ s.2.2.1 13 p = r (12 + 3 * p) ∧ s.2.2.1 14 p = r (13 + 3 * p)) ∧
  (∀ i : Nat, (i : Int) < (r 8).toInt → s.2.2.1 15 i = r (200 + i)) ∧
  (0 < (r 8).toInt → (s.2.2.1 16 0).toInt = 0) ∧
  (∀ i : Nat, (i : Int) + 1 < (r 8).toInt → (s.2.2.1 16 (i + 1)).toInt = (s.2.2.1 16 i).toInt + (r (38 + (9 * (r (200 + i)).toNatClampNeg + (r (200 + (i + 1))).toNatClampNeg))).toInt) ∧
  (∀ k : Nat, (k : Int) < (r 9).toInt → s.2.2.1 17 k = r (209 + 2 * k) ∧ s.2.2.1 18 k = r (210 + 2 * k))
theorem RP.num {s : MS} {r : Nat → Int32} (h : RP s r) : ∀ k, k < 10 → s.1 k = r k := h.1
theorem RP.pin {s : MS} {r : Nat → Int32} (h : RP s r) : ∀ k, k < 81 → s.2.2.1 10 k = r (38 + k) := h.2.1
theorem RP.min {s : MS} {r : Nat → Int32} (h : RP s r) : ∀ k, k < 81 → s.2.2.1 11 k = r (119 + k) := h.2.2.1
theorem RP.pum {s : MS} {r : Nat → Int32} (h : RP s r) : ∀ p, p < 9 → s.2.2.1 12 p = r (11 + 3 * p) ∧ s.2.2.1 13 p = r (12 + 3 * p) ∧ s.2.2.1 14 p = r (13 + 3 * p) := h.2.2.2.1
theorem RP.way {s : MS} {r : Nat → Int32} (h : RP s r) : ∀ i : Nat, (i : Int) < (r 8).toInt → s.2.2.1 15 i = r (200 + i) := h.2.2.2.2.1
theorem RP.up0 {s : MS} {r : Nat → Int32} (h : RP s r) : 0 < (r 8).toInt → (s.2.2.1 16 0).toInt = 0 := h.2.2.2.2.2.1
theorem RP.upt {s : MS} {r : Nat → Int32} (h : RP s r) : ∀ i : Nat, (i : Int) + 1 < (r 8).toInt → (s.2.2.1 16 (i + 1)).toInt = (s.2.2.1 16 i).toInt + (r (38 + (9 * (r (200 + i)).toNatClampNeg + (r (200 + (i + 1))).toNatClampNeg))).toInt := h.2.2.2.2.2.2.1
theorem RP.rec {s : MS} {r : Nat → Int32} (h : RP s r) : ∀ k : Nat, (k : Int) < (r 9).toInt → s.2.2.1 17 k = r (209 + 2 * k) ∧ s.2.2.1 18 k = r (210 + 2 * k) := h.2.2.2.2.2.2.2
theorem PK_ROK {r : Nat → Int32} (h : PK r) (h10 : r 10 ≠ 0) (h8 : (r 8).toInt ≠ 0) : ROK r := by
  obtain ⟨ca, nu, ro, mi, pu, wy, re⟩ := h
  rcases ca with ⟨c1, -⟩ | ⟨-, c0, c1, c2, c3, c4⟩
  · exact absurd c1 h10
  · obtain ⟨n5, n6, n7, n8, n9⟩ := nu
    exact ⟨c0, c1, c2, c3, c4, n5, n6, n7, by omega, n9, ro, mi, pu, wy.1, wy.2, re⟩
theorem RP_RR {s : MS} {r : Nat → Int32} (h : RP s r) (h8 : 0 < (r 8).toInt) : RR s r := ⟨h.num, h.pin, h.min, h.pum, h.way, h.up0 h8, h.upt, h.rec⟩
theorem RoK_c {r r' : Nat → Int32} (h : ∀ k, k < 81 → r' (38 + k) = r (38 + k)) (h5 : (r 5).toInt ≤ (r' 5).toInt) (H : RoK r) : RoK r' := by
  intro a b ha hb
  rw [h (9 * a + b) (by omega), h (9 * b + a) (by omega)]
  obtain ⟨g1, g2, g3, g4⟩ := H a b ha hb
  exact ⟨g1, g2, g3, fun g => g4 (by omega)⟩
theorem MiK_c {r r' : Nat → Int32} (h : ∀ k, k < 81 → r' (119 + k) = r (119 + k)) (H : MiK r) : MiK r' := by
  intro k hk
  rw [h k hk]
  exact H k hk
theorem PuK_c {r r' : Nat → Int32} (h : ∀ k, k < 27 → r' (11 + k) = r (11 + k)) (H : PuK r) : PuK r' := by
  intro p hp
  have e1 := h (3 * p) (by omega)
  have e2 := h (1 + 3 * p) (by omega)
  have e3 := h (2 + 3 * p) (by omega)
  rw [show 11 + (1 + 3 * p) = 12 + 3 * p by omega] at e2
  rw [show 11 + (2 + 3 * p) = 13 + 3 * p by omega] at e3
  rw [e1, e2, e3]
  exact H p hp
theorem WyK_c {r r' : Nat → Int32} (h8 : r' 8 = r 8) (b8 : (r 8).toInt ≤ 9) (hw : ∀ i, i < 9 → r' (200 + i) = r (200 + i)) (hr : ∀ k, k < 81 → 0 < (r (38 + k)).toInt → 0 < (r' (38 + k)).toInt) (h5 : (r 5).toInt ≤ (r' 5).toInt) (b5 : (r 5).toInt ≤ 9) (H : WyK r) : WyK r' := by
  refine ⟨fun i hi => ?_, fun i hi => ?_⟩
  · rw [h8] at hi
    rw [hw i (by omega)]
    have := H.1 i hi
    omega
  · rw [h8] at hi
    rw [hw i (by omega), hw (i + 1) (by omega)]
    have g1 := H.1 i (by omega)
    have g2 := H.1 (i + 1) (by omega)
    have n1 := i_nat _ g1.1
    have n2 := i_nat _ g2.1
    exact hr _ (by omega) (H.2 i hi)
theorem ReK_c {r r' : Nat → Int32} (h9 : r' 9 = r 9) (b9 : (r 9).toInt ≤ 5) (hw : ∀ i, i < 10 → r' (209 + i) = r (209 + i)) (hr : ∀ p, p < 9 → 0 < (r (11 + 3 * p)).toInt → 0 < (r' (11 + 3 * p)).toInt) (h5 : (r 5).toInt ≤ (r' 5).toInt) (b5 : (r 5).toInt ≤ 9) (H : ReK r) : ReK r' := by
  intro k hk
  rw [h9] at hk
  have e2 := hw (1 + 2 * k) (by omega)
  rw [show 209 + (1 + 2 * k) = 210 + 2 * k by omega] at e2
  rw [hw (2 * k) (by omega), e2]
  obtain ⟨g1, g2, g3⟩ := H k hk
  have n1 := i_nat _ g1.1
  exact ⟨⟨g1.1, by omega⟩, g2, hr _ (by omega) g3⟩
def GD (f : Nat → Int32) (e Lb : Nat) (sRd sSp sMo : MS) : Prop :=
  (RZ f e sRd sMo) ∧
  (RD f e Lb sRd sMo) ∧
  (sMo.1 13 = 0) ∧
  (sMo.1 9 = 0) ∧
  (sRd.1 0 = 0) ∧
  (sRd.1 1 = -1) ∧
  (PK (sMo.2.2.1 16)) ∧
  (RP sSp (sMo.2.2.1 16)) ∧
  (NM f e sRd (sMo.2.2.1 16))
theorem GD.z {f : Nat → Int32} {e Lb : Nat} {sRd sSp sMo : MS} (h : GD f e Lb sRd sSp sMo) : RZ f e sRd sMo := h.1
theorem GD.d {f : Nat → Int32} {e Lb : Nat} {sRd sSp sMo : MS} (h : GD f e Lb sRd sSp sMo) : RD f e Lb sRd sMo := h.2.1
theorem GD.ok {f : Nat → Int32} {e Lb : Nat} {sRd sSp sMo : MS} (h : GD f e Lb sRd sSp sMo) : sMo.1 13 = 0 := h.2.2.1
theorem GD.no {f : Nat → Int32} {e Lb : Nat} {sRd sSp sMo : MS} (h : GD f e Lb sRd sSp sMo) : sMo.1 9 = 0 := h.2.2.2.1
theorem GD.f0 {f : Nat → Int32} {e Lb : Nat} {sRd sSp sMo : MS} (h : GD f e Lb sRd sSp sMo) : sRd.1 0 = 0 := h.2.2.2.2.1
theorem GD.f1 {f : Nat → Int32} {e Lb : Nat} {sRd sSp sMo : MS} (h : GD f e Lb sRd sSp sMo) : sRd.1 1 = -1 := h.2.2.2.2.2.1
theorem GD.pk {f : Nat → Int32} {e Lb : Nat} {sRd sSp sMo : MS} (h : GD f e Lb sRd sSp sMo) : PK (sMo.2.2.1 16) := h.2.2.2.2.2.2.1
theorem GD.rp {f : Nat → Int32} {e Lb : Nat} {sRd sSp sMo : MS} (h : GD f e Lb sRd sSp sMo) : RP sSp (sMo.2.2.1 16) := h.2.2.2.2.2.2.2.1
theorem GD.nm {f : Nat → Int32} {e Lb : Nat} {sRd sSp sMo : MS} (h : GD f e Lb sRd sSp sMo) : NM f e sRd (sMo.2.2.1 16) := h.2.2.2.2.2.2.2.2
theorem GD_k {f : Nat → Int32} {e Lb : Nat} {sRd sSp sMo sRd' sMo' : MS} (h : GD f e Lb sRd sSp sMo) (k : KD f e Lb sRd sMo sRd' sMo') : GD f e Lb sRd' sSp sMo' := by
  obtain ⟨k1, k2, k3⟩ := k
  have e16 := k3.2 16 (by decide)
  refine ⟨RZ_f h.z k2 k3, k1, (k3.1 13 (by omega)).trans h.ok, (k3.1 9 (by omega)).trans h.no, (k2.1 0 (by omega)).trans h.f0, (k2.1 1 (by omega)).trans h.f1, ?_, ?_, ?_⟩
  · rw [e16]; exact h.pk
  · rw [e16]; exact h.rp
  · rw [e16]
    have := h.nm
    unfold NM at *
    rw [k2.2]
    exact this
theorem RD_c {f : Nat → Int32} {e Lb : Nat} {sRd sMo sMo' : MS} (h : RD f e Lb sRd sMo) (g1 : sMo'.1 = sMo.1) (g2 : sMo'.2.2.1 12 = sMo.2.2.1 12) : RD f e Lb sRd sMo' := by
  unfold RD TK at *
  rw [g1, g2]
  exact h
theorem RZ_c {f : Nat → Int32} {e : Nat} {sRd sMo sMo' : MS} (h : RZ f e sRd sMo) (g1 : sMo'.1 = sMo.1) (g2 : sMo'.2.2.1 1 = sMo.2.2.1 1) : RZ f e sRd sMo' := by
  refine ⟨h.1, h.2.1, ?_, TPR_f h.2.2.2 g2⟩
  rw [g1]
  exact h.2.2.1
def LN (f : Nat → Int32) (e Lb : Nat) (oc : Option (Int32 × MS × MS)) (om : Option MS) (sMo : MS) : Prop :=
  (∃ sRd' sSp' sMo', oc = some (1, sRd', sSp') ∧ om = some sMo' ∧ GD f e Lb sRd' sSp' sMo' ∧ FX sMo sMo') ∨
  (∃ sRd' sSp' s0, oc = some (0, sRd', sSp') ∧ BAD sRd' s0 ∧ FX sMo s0 ∧ FT om s0)
theorem sA_1 (s : MS) (a i : Nat) (v : Int32) : (sA s a i v).1 = s.1 := rfl
theorem sA_g (s : MS) (a i : Nat) (v : Int32) : (sA s a i v).2.2.1 a i = v := by
  show uN s.2.2.1 a _ a i = v
  rw [uN_s, up_s]
theorem sA_u (s : MS) (a i : Nat) (v : Int32) : (sA s a i v).2.2.1 a = upd (s.2.2.1 a) i v := by
  show uN s.2.2.1 a _ a = _
  rw [uN_s]
theorem sA_n (s : MS) (a b i : Nat) (v : Int32) (h : b ≠ a) : (sA s a i v).2.2.1 b = s.2.2.1 b := uN_n _ _ _ _ h
theorem T_sign {F : Nat} {f : Nat → Int32} {e Lb : Nat} {sRd sMo : MS} (hE : RZ f e sRd sMo) (hD : RD f e Lb sRd sMo) {c : Int} (hc : c = 44 ∨ c = 59) : ∃ v : Bool, f_X7_isSign F sRd 800 f (Int32.ofInt c) = some (bi v) ∧ (v = true ↔ sMo.1 6 = Int32.ofInt c) := by
  have he := hE.1
  obtain ⟨a, b, d1, d2, d3, d4, d5, d6, d7⟩ := hD
  unfold f_X7_isSign
  have hx : ∀ k : Int, k < 44 → 0 ≤ k → Int32.ofInt k ≠ Int32.ofInt c := by
    intro k h1 h2 h
    rw [n_eq _ _ (by omega) (by omega) (by omega) (by omega)] at h
    omega
  rcases d7 with ⟨w1, w2⟩ | ⟨w1, w2, -⟩ | ⟨w1, w2, -⟩ | ⟨w1, w3, w2⟩ | ⟨w1, w2⟩
  · refine ⟨false, by rw [w1]; rfl, by simp, fun h => ?_⟩
    exact absurd (w2.symm.trans h) (hx 0 (by omega) (by omega))
  · refine ⟨false, by rw [w1]; rfl, by simp, fun h => ?_⟩
    exact absurd (w2.symm.trans h) (hx 2 (by omega) (by omega))
  · refine ⟨false, by rw [w1]; rfl, by simp, fun h => ?_⟩
    exact absurd (w2.symm.trans h) (hx 3 (by omega) (by omega))
  · have E : (if sRd.1 5 = (3 : Int32) then gd (vpb (sRd.1 6) 800) (if f (sRd.1 6).toNatClampNeg = Int32.ofInt c then some (1 : Int32) else some (0 : Int32)) else some (0 : Int32)) = (if f a = Int32.ofInt c then some 1 else some 0) := by
      rw [w1, if_pos rfl, d3, n_gd _ _ _ (by omega) (by omega) (by omega), n_ix _ (by omega) (by omega), tn]
    have ef : f a = sMo.1 6 := by
      rcases w2 with ⟨g1, g2⟩ | ⟨g1, g2⟩
      · rw [g1, g2]
      · rw [g1, g2]
    by_cases cc : f a = Int32.ofInt c
    · exact ⟨true, by rw [E, if_pos cc]; rfl, fun _ => ef.symm.trans cc, fun _ => rfl⟩
    · exact ⟨false, by rw [E, if_neg cc]; rfl, by simp, fun h => absurd (ef.trans h) cc⟩
  · refine ⟨false, by rw [w1]; rfl, by simp, fun h => ?_⟩
    exact absurd (w2.symm.trans h) (hx 1 (by omega) (by omega))
