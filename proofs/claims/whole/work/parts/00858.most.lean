/-! most -/
theorem M_small {F : Nat} (hF : 2000 ≤ F) {sRo : MS} {r : Nat → Int32} (hR : RR sRo r) (h : ROK r) {mp : Int32} {mn : Bool} (hm : mp = 0 ↔ mn = false) {M Q : Nat → Nat → Int} (hM : RG M) (hQ : Clo r mn M Q) (hc : Ch r mn (I0 (wp r 0) (rd r 1).toNat) (fun _ _ => 1000000000) M Q) : (∀ p x, x ≤ 40 → M p x < 1000000000 → M p x ≤ 20000000) ∧ (∀ p x, M p x ≤ I0 (wp r 0) (rd r 1).toNat p x) := by
  obtain ⟨c1, c2, c3, c4, c5⟩ := nTP h
  obtain ⟨t0, t1, t2, t3, t4, t5, t8, t9⟩ := ROKb h
  obtain ⟨w1, w2⟩ := wp_b h (i := 0) (by omega)
  have mono := fun p x => (show M p x ≤ I0 (wp r 0) (rd r 1).toNat p x by
    obtain ⟨n, σ, τ, a1, a2, a3, a4, a5⟩ := hc
    have := (mono_ch a5 n 0 (by omega)).1 p x
    rw [a3, a1] at this
    exact this)
  refine ⟨?_, mono⟩
  have i0 : I0 (wp r 0) (rd r 1).toNat (wp r 0) (rd r 1).toNat = 0 := by
    unfold I0
    rw [if_pos ⟨rfl, rfl⟩]
  have m0 : M (wp r 0) (rd r 1).toNat = 0 := by
    have a := mono (wp r 0) (rd r 1).toNat
    have b := hM (wp r 0) (rd r 1).toNat
    rw [i0] at a
    omega
  obtain ⟨s1, s2, C', z1, z2, z3, z4, z5⟩ := ls47 (F := F) (by omega) hR h hm hM hQ (p0 := wp r 0) (x0 := (rd r 1).toNat) (by omega) 369 0 F true (fun _ => 0, fun _ => 0, fun _ _ => 0, fun _ _ => 0) (fun _ => 0, fun _ => 0, fun p f => Int32.ofInt (cN (I0 (wp r 0) (rd r 1).toNat p f)), fun _ _ => 0) (I0 (wp r 0) (rd r 1).toNat) (by omega) (by omega) (by
    intro p f hf
    unfold I0
    split <;> omega) (fun p f hp hf => rfl) (fun q x _ => mono q x) (by rw [i0, m0]) (by
    right
    refine ⟨rfl, ?_⟩
    refine cnt_1 (v := 41 * wp r 0 + (rd r 1).toNat) ?_ (by omega)
    unfold fin'
    rw [show (41 * wp r 0 + (rd r 1).toNat) / 41 = wp r 0 by omega, show (41 * wp r 0 + (rd r 1).toNat) % 41 = (rd r 1).toNat by omega, i0, m0]
    rfl)
  have eq := AF_eq h hM hQ hc z3 (by omega) z4 z5
  intro p x hx hlt
  have a := eq p x hx
  have b := z3 p x hx
  omega
def mo (r : Nat → Int32) (p q : Nat) (L : Nat → Int) : Int := if 0 < pm r q then (nT r : Int) else L p - tk r p q
def fN (r : Nat → Int32) (p q : Nat) (L : Nat → Int) (j : Nat) : Int := if j = q ∧ 0 < tk r p q ∧ tk r p q ≤ L p ∧ L q < mo r p q L then mo r p q L else L j
def fiN (M Q : Nat → Nat → Int) (p : Nat) (f : Int) : Prop := M p f.toNat < 1000000000 ∨ Q p f.toNat < 1000000000
/-- levels as they stand -/
def LK (r : Nat → Int32) (M Q : Nat → Nat → Int) (L : Nat → Int) : Prop := (∀ p, p < 9 → L p = -2 ∨ (0 ≤ L p ∧ L p ≤ (nT r : Int) ∧ (0 < pm r p → L p = (nT r : Int)) ∧ p < nP r ∧ fiN M Q p (L p))) ∧ ((rd r 1).toNat : Int) ≤ L (wp r 0)
theorem LK_s {r : Nat → Int32} (h : ROK r) {mn : Bool} {M Q : Nat → Nat → Int} (hQ : Clo r mn M Q) (hs : ∀ p x, x ≤ 40 → M p x < 1000000000 → M p x ≤ 20000000) (hq : ∀ p f, Q p f < 1000000000 → Q p f ≤ 30000000) {p q : Nat} (hp : p < nP r) (hq' : q < nP r) {L : Nat → Int} (H : LK r M Q L) : LK r M Q (fN r p q L) ∧ (∀ j, L j ≤ fN r p q L j) := by
  obtain ⟨c1, c2, c3, c4, c5⟩ := nTP h
  have tb := tk_b h (show p < 9 by omega) (show q < 9 by omega)
  have lb := lc_b h mn (show p < 9 by omega) (show q < 9 by omega)
  have le : ∀ j, L j ≤ fN r p q L j := by
    intro j
    unfold fN
    split
    · rename_i e
      rw [e.1]
      omega
    · omega
  refine ⟨⟨?_, Int.le_trans H.2 (le _)⟩, le⟩
  intro j hj
  unfold fN
  by_cases e : j = q ∧ 0 < tk r p q ∧ tk r p q ≤ L p ∧ L q < mo r p q L
  · rw [if_pos e]
    obtain ⟨rfl, e2, e3, e4⟩ := e
    right
    rcases H.1 p (by omega) with k | ⟨k1, k2, k3, k4, k5⟩
    · omega
    · have fin : M j ((L p).toNat - (tk r p j).toNat) < 1000000000 ∧ M j ((L p).toNat - (tk r p j).toNat) ≤ 20000000 := by
        have ee := ei_le M Q p (L p).toNat
        have eb : ei M Q p (L p).toNat ≤ 30000000 := by
          rcases k5 with k | k
          · have := hs p (L p).toNat (by omega) k
            omega
          · have := hq p (L p).toNat k
            omega
        have := (hQ p (L p).toNat hp (by omega)).2 j hq' e2 (by omega) (by omega)
        have b : M j ((L p).toNat - (tk r p j).toNat) < 1000000000 := by omega
        exact ⟨b, hs j _ (by omega) b⟩
      unfold mo
      by_cases c : 0 < pm r j
      · rw [if_pos c]
        refine ⟨by omega, by omega, fun _ => rfl, hq', Or.inr ?_⟩
        have bb := bc_b h mn (p := j) (n := nT r - ((L p).toNat - (tk r p j).toNat)) (by omega) (by omega)
        have := (hQ j ((L p).toNat - (tk r p j).toNat) hq' (by omega)).1 c fin.1 (nT r) (by omega) (Nat.le_refl _)
        rw [show ((nT r : Nat) : Int).toNat = nT r from rfl]
        omega
      · rw [if_neg c]
        refine ⟨by omega, by omega, fun z => absurd z c, hq', Or.inl ?_⟩
        rw [show (L p - tk r p j).toNat = (L p).toNat - (tk r p j).toNat by omega]
        exact fin.1
  · rw [if_neg e]
    exact H.1 j hj
/-- nothing more to fill -/
def LC (r : Nat → Int32) (L : Nat → Int) : Prop := ∀ p q, p < nP r → q < nP r → 0 < tk r p q → tk r p q ≤ L p → mo r p q L ≤ L q
theorem LC_all {r : Nat → Int32} (h : ROK r) {mn : Bool} {M Q : Nat → Nat → Int} (hc : Ch r mn (I0 (wp r 0) (rd r 1).toNat) (fun _ _ => 1000000000) M Q) {L : Nat → Int} (H : LK r M Q L) (hL : LC r L) (hw : wp r 0 < nP r) : (∀ p f, M p f < 1000000000 → p < nP r ∧ (f : Int) ≤ L p) ∧ (∀ p f, Q p f < 1000000000 → p < nP r ∧ (f : Int) ≤ L p) := by
  obtain ⟨n, σ, τ, h1, h2, h3, h4, h5⟩ := hc
  obtain ⟨c1, c2, c3, c4, c5⟩ := nTP h
  have key : ∀ i, i ≤ n → (∀ p f, σ i p f < 1000000000 → p < nP r ∧ (f : Int) ≤ L p) ∧ (∀ p f, τ i p f < 1000000000 → p < nP r ∧ (f : Int) ≤ L p) := by
    intro i
    induction i with
    | zero =>
      intro _
      constructor
      · intro p f hf
        rw [h1] at hf
        unfold I0 at hf
        by_cases c : p = wp r 0 ∧ f = (rd r 1).toNat
        · rw [c.1, c.2]
          exact ⟨hw, H.2⟩
        · rw [if_neg c] at hf
          omega
      · intro p f hf
        rw [h2] at hf
        have hf' : (1000000000 : Int) < 1000000000 := hf
        omega
    | succ i ih =>
      intro hi
      obtain ⟨a, b⟩ := ih (by omega)
      obtain ⟨p, f, hp, hf, e1, e2⟩ := h5 i (by omega)
      constructor
      · intro q x hx
        rw [e1] at hx
        unfold gN at hx
        by_cases c : q < nP r ∧ 0 < tk r p q ∧ tk r p q ≤ (f : Int) ∧ x = f - (tk r p q).toNat ∧ ei (σ i) (τ i) p f < 1000000000 ∧ ei (σ i) (τ i) p f + lc r mn p q < σ i q x
        · obtain ⟨d1, d2, d3, d4, d5, d6⟩ := c
          have fl : (f : Int) ≤ L p := by
            rcases (ei_le (σ i) (τ i) p f).2.2 with k | k
            · exact (a p f (by omega)).2
            · exact (b p f (by omega)).2
          have cl := hL p q hp d1 d2 (by omega)
          refine ⟨d1, ?_⟩
          unfold mo at cl
          by_cases cp : 0 < pm r q
          · rw [if_pos cp] at cl
            omega
          · rw [if_neg cp] at cl
            omega
        · rw [if_neg c] at hx
          exact a q x hx
      · intro p' f' hx
        rw [e2] at hx
        unfold gB at hx
        by_cases c : p' = p ∧ 0 < pm r p ∧ σ i p f < 1000000000 ∧ f < f' ∧ f' ≤ nT r ∧ σ i p f + bc r mn p (f' - f) < τ i p' f'
        · obtain ⟨rfl, d2, d3, d4, d5, d6⟩ := c
          have fl := (a p' f d3).2
          refine ⟨hp, ?_⟩
          rcases H.1 p' (by omega) with k | ⟨k1, k2, k3, k4, k5⟩
          · omega
          · have := k3 d2
            omega
        · rw [if_neg c] at hx
          exact b p' f' hx
  have := key n (Nat.le_refl n)
  rw [h3, h4] at this
  exact this
/-- how much they are together -/
def psi (v : Int) : Int := if v < 0 then 0 else v + 1
def s9 (L : Nat → Int) : Int := psi (L 0) + psi (L 1) + psi (L 2) + psi (L 3) + psi (L 4) + psi (L 5) + psi (L 6) + psi (L 7) + psi (L 8)
theorem psi_m {a b : Int} (h : a ≤ b) : psi a ≤ psi b := by
  unfold psi
  split <;> split <;> omega
theorem psi_s {a b : Int} (h : a < b) (hb : 0 ≤ b) : psi a < psi b := by
  unfold psi
  split <;> split <;> omega
theorem s9_m {L L' : Nat → Int} (h : ∀ j, L j ≤ L' j) : s9 L ≤ s9 L' := by
  have := fun j => psi_m (h j)
  unfold s9
  have := this 0
  have := psi_m (h 1)
  have := psi_m (h 2)
  have := psi_m (h 3)
  have := psi_m (h 4)
  have := psi_m (h 5)
  have := psi_m (h 6)
  have := psi_m (h 7)
  have := psi_m (h 8)
  omega
theorem s9_s {L L' : Nat → Int} (h : ∀ j, L j ≤ L' j) {q : Nat} (hq : q < 9) (hs : L q < L' q) (h0 : 0 ≤ L' q) : s9 L < s9 L' := by
  have a0 := psi_m (h 0)
  have a1 := psi_m (h 1)
  have a2 := psi_m (h 2)
  have a3 := psi_m (h 3)
  have a4 := psi_m (h 4)
  have a5 := psi_m (h 5)
  have a6 := psi_m (h 6)
  have a7 := psi_m (h 7)
  have a8 := psi_m (h 8)
  have k := psi_s hs h0
  unfold s9
  have : q = 0 ∨ q = 1 ∨ q = 2 ∨ q = 3 ∨ q = 4 ∨ q = 5 ∨ q = 6 ∨ q = 7 ∨ q = 8 := by omega
  rcases this with rfl | rfl | rfl | rfl | rfl | rfl | rfl | rfl | rfl <;> omega
theorem s9_b {r : Nat → Int32} (h : ROK r) {M Q : Nat → Nat → Int} {L : Nat → Int} (H : LK r M Q L) : s9 L ≤ 369 := by
  obtain ⟨c1, c2, c3, c4, c5⟩ := nTP h
  have b : ∀ p, p < 9 → psi (L p) ≤ 41 := by
    intro p hp
    have := H.1 p hp
    unfold psi
    split <;> omega
  have := b 0 (by omega)
  have := b 1 (by omega)
  have := b 2 (by omega)
  have := b 3 (by omega)
  have := b 4 (by omega)
  have := b 5 (by omega)
  have := b 6 (by omega)
  have := b 7 (by omega)
  have := b 8 (by omega)
  unfold s9
  omega
/-- one round's progress -/
def GR (fl : Bool) (L0 L : Nat → Int) : Prop := (∀ j, L0 j ≤ L j) ∧ (fl = false → L = L0) ∧ (fl = true → s9 L0 < s9 L)
theorem fn5 {F : Nat} {sRo : MS} {r : Nat → Int32} (hR : RR sRo r) (h : ROK r) {mn : Bool} {M Q : Nat → Nat → Int} (hQ : Clo r mn M Q) (hs : ∀ p x, x ≤ 40 → M p x < 1000000000 → M p x ≤ 20000000) (hq : ∀ p f, Q p f < 1000000000 → Q p f ≤ 30000000) {L0 : Nat → Int} {p : Nat} (hp : p < nP r) : ∀ (d k n : Nat) (fl : Bool) (s : MS) (L : Nat → Int), k + d = nP r → d < n → LK r M Q L → (∀ j, j < 9 → s.2.2.1 2 j = Int32.ofInt (L j)) → GR fl L0 L → (fl = false → ∀ q, q < k → 0 < tk r p q → tk r p q ≤ L0 p → mo r p q L0 ≤ L0 q) →
    ∃ fl' s' L', f_X5_fillNext_5 F sRo (Int32.ofInt (p : Int)) n (Int32.ofInt (fI fl)) (Int32.ofInt (k : Int)) s = some (Int32.ofInt (fI fl'), s') ∧ LK r M Q L' ∧ (∀ j, j < 9 → s'.2.2.1 2 j = Int32.ofInt (L' j)) ∧ GR fl' L0 L' ∧ (fl' = false → fl = false ∧ ∀ q, q < nP r → 0 < tk r p q → tk r p q ≤ L0 p → mo r p q L0 ≤ L0 q) := by
  obtain ⟨q0, q1, q2, q3, q4, q5, q8, q9⟩ := RRb hR
  obtain ⟨c1, c2, c3, c4, c5⟩ := nTP h
  intro d
  induction d with
  | zero =>
    intro k n fl s L hk hn H hs' G hcl
    cases n with
    | zero => omega
    | succ n =>
      refine ⟨fl, s, L, ?_, H, hs', G, fun z => ⟨z, fun q hq' => hcl z q (by omega)⟩⟩
      rw [f_X5_fillNext_5]
      simp (disch := omega) only [z_0, z_1, z_2, z_3, z_4, z_5, z_6, z_7, z_8, z_9, z_10, z_11, z_12, z_14, z_18, z_20, z_22, z_24, z_32, z_38, z_40, z_41, z_44, z_48, z_49, z_57, z_59, z_60, z_63, z_65, z_74, z_75, z_81, z_97, z_99, z_104, z_115, z_119, z_122, z_200, z_209, z_210, z_219, z_228, z_255, z_300, z_369, z_999, z_65537, z_268435456, z_1000000000, n_nat, n_add, n_sub, n_mul, n_neg, n_lt, n_le, n_eq, n_ix, n_gd, n_nz, lz_t, bd_some, tn, Int.reduceToNat, tn_1, if_pos, if_neg, if_true, if_false, q5, bob_f]
  | succ d ih =>
    intro k n fl s L hk hn H hs' G hcl
    cases n with
    | zero => omega
    | succ n =>
      have tb := tk_b h (show p < 9 by omega) (show k < 9 by omega)
      have pb := pm_b h (show k < 9 by omega)
      have e9 : f_X9_isRoad F sRo (Int32.ofInt (p : Int)) (Int32.ofInt (k : Int)) = some (bi (decide (0 < tk r p k))) := B9_road (F := F) hR (show p < 9 by omega) (show k < 9 by omega)
      have p9 : f_X9_pintsOf F sRo (Int32.ofInt (p : Int)) (Int32.ofInt (k : Int)) = some (Int32.ofInt (tk r p k)) := B9_pints (F := F) hR (show p < 9 by omega) (show k < 9 by omega)
      have a1 : sRo.2.2.1 12 k = Int32.ofInt (pm r k) := by
        rw [(hR.2.2.2.1 k (by omega)).1]
        exact rd_e r _
      have sp := hs' p (by omega)
      have sk := hs' k (by omega)
      have Lp := H.1 p (by omega)
      have Lk := H.1 k (by omega)
      have stay : (¬ (0 < tk r p k ∧ tk r p k ≤ L p ∧ L k < mo r p k L)) → f_X5_fillNext_5 F sRo (Int32.ofInt (p : Int)) (n + 1) (Int32.ofInt (fI fl)) (Int32.ofInt (k : Int)) s = f_X5_fillNext_5 F sRo (Int32.ofInt (p : Int)) n (Int32.ofInt (fI fl)) (Int32.ofInt ((k : Int) + 1)) s → ∃ fl' s' L', f_X5_fillNext_5 F sRo (Int32.ofInt (p : Int)) (n + 1) (Int32.ofInt (fI fl)) (Int32.ofInt (k : Int)) s = some (Int32.ofInt (fI fl'), s') ∧ LK r M Q L' ∧ (∀ j, j < 9 → s'.2.2.1 2 j = Int32.ofInt (L' j)) ∧ GR fl' L0 L' ∧ (fl' = false → fl = false ∧ ∀ q, q < nP r → 0 < tk r p q → tk r p q ≤ L0 p → mo r p q L0 ≤ L0 q) := by
        intro hno he
        obtain ⟨fl', s', L', z1, z2, z3, z4, z5⟩ := ih (k + 1) n fl s L (by omega) (by omega) H hs' G (by
          intro z q hqk t1 t2
          by_cases e : q = k
          · subst e
            have : L = L0 := G.2.1 z
            subst this
            omega
          · exact hcl z q (by omega) t1 t2)
        exact ⟨fl', s', L', by rw [he]; exact z1, z2, z3, z4, z5⟩
      by_cases ct : 0 < tk r p k
      · by_cases cl : tk r p k ≤ L p
        · have e71 : f_X5_fillNext_5 F sRo (Int32.ofInt (p : Int)) (n + 1) (Int32.ofInt (fI fl)) (Int32.ofInt (k : Int)) s = f_X5_fillNext_71 F sRo (Int32.ofInt (p : Int)) (f_X5_fillNext_5 F sRo (Int32.ofInt (p : Int)) n) (Int32.ofInt (fI fl)) (Int32.ofInt (k : Int)) (Int32.ofInt (mo r p k L)) s := by
            rw [f_X5_fillNext_5]
            unfold mo
            by_cases cp : 0 < pm r k
            · rw [if_pos cp, c4]
              simp (disch := omega) only [z_0, z_1, z_2, z_3, z_4, z_5, z_6, z_7, z_8, z_9, z_10, z_11, z_12, z_14, z_18, z_20, z_22, z_24, z_32, z_38, z_40, z_41, z_44, z_48, z_49, z_57, z_59, z_60, z_63, z_65, z_74, z_75, z_81, z_97, z_99, z_104, z_115, z_119, z_122, z_200, z_209, z_210, z_219, z_228, z_255, z_300, z_369, z_999, z_65537, z_268435456, z_1000000000, n_nat, n_add, n_sub, n_mul, n_neg, n_lt, n_le, n_eq, n_ix, n_gd, n_nz, lz_t, bd_some, tn, Int.reduceToNat, tn_1, if_pos, if_neg, if_true, if_false, q5, e9, p9, sp, a1, q0, bi_z, decide_eq_false_iff_not]
            · rw [if_neg cp]
              simp (disch := omega) only [z_0, z_1, z_2, z_3, z_4, z_5, z_6, z_7, z_8, z_9, z_10, z_11, z_12, z_14, z_18, z_20, z_22, z_24, z_32, z_38, z_40, z_41, z_44, z_48, z_49, z_57, z_59, z_60, z_63, z_65, z_74, z_75, z_81, z_97, z_99, z_104, z_115, z_119, z_122, z_200, z_209, z_210, z_219, z_228, z_255, z_300, z_369, z_999, z_65537, z_268435456, z_1000000000, n_nat, n_add, n_sub, n_mul, n_neg, n_lt, n_le, n_eq, n_ix, n_gd, n_nz, lz_t, bd_some, tn, Int.reduceToNat, tn_1, if_pos, if_neg, if_true, if_false, q5, e9, p9, sp, a1, bi_z, decide_eq_false_iff_not]
          have mb : -2147483648 ≤ mo r p k L ∧ mo r p k L < 2147483648 := by
            unfold mo
            split <;> omega
          by_cases cm : L k < mo r p k L
          · have lk := LK_s h hQ hs hq hp (show k < nP r by omega) H
            have fk : fN r p k L k = mo r p k L := by
              unfold fN
              rw [if_pos ⟨rfl, ct, cl, cm⟩]
            have m0 : 0 ≤ mo r p k L := by
              rcases lk.1.1 k (by omega) with z | z
              · rw [fk] at z
                unfold mo at z cm
                split at z <;> omega
              · rw [fk] at z; exact z.1
            obtain ⟨fl', s', L', z1, z2, z3, z4, z5⟩ := ih (k + 1) n true (sA s 2 k (Int32.ofInt (mo r p k L))) (fN r p k L) (by omega) (by omega) lk.1 (by
              intro j hj
              by_cases e : j = k
              · subst e
                rw [fk]
                simp (disch := omega) only [sI_a, sI_b, sL_a, sL_b, sL_c, wA_a, wA_b, wA_c, wA_d, wB_a, wB_b, wB_c, wB_d, sA_w, sB_w, uN_s, uN_n, up_s, up_n, ul_s, ul_n, p_fst, p_snd]
              · simp (disch := omega) only [sI_a, sI_b, sL_a, sL_b, sL_c, wA_a, wA_b, wA_c, wA_d, wB_a, wB_b, wB_c, wB_d, sA_w, sB_w, uN_s, uN_n, up_s, up_n, ul_s, ul_n, p_fst, p_snd]
                have : fN r p k L j = L j := by unfold fN; rw [if_neg (fun z => e z.1)]
                rw [this]
                exact hs' j hj) ⟨fun j => Int.le_trans (G.1 j) (lk.2 j), fun z => absurd z (by decide), fun _ => by
                  have a := s9_m G.1
                  have b := s9_s lk.2 (q := k) (by omega) (by rw [fk]; exact cm) (by rw [fk]; exact m0)
                  omega⟩ (fun z => absurd z (by decide))
            refine ⟨fl', s', L', ?_, z2, z3, z4, fun z => absurd (z5 z).1 (by decide)⟩
            rw [e71]
            unfold f_X5_fillNext_71 f_X5_fillNext_96
            simp (disch := omega) only [z_0, z_1, z_2, z_3, z_4, z_5, z_6, z_7, z_8, z_9, z_10, z_11, z_12, z_14, z_18, z_20, z_22, z_24, z_32, z_38, z_40, z_41, z_44, z_48, z_49, z_57, z_59, z_60, z_63, z_65, z_74, z_75, z_81, z_97, z_99, z_104, z_115, z_119, z_122, z_200, z_209, z_210, z_219, z_228, z_255, z_300, z_369, z_999, z_65537, z_268435456, z_1000000000, n_nat, n_add, n_sub, n_mul, n_neg, n_lt, n_le, n_eq, n_ix, n_gd, n_nz, lz_t, bd_some, tn, Int.reduceToNat, tn_1, if_pos, if_neg, if_true, if_false, sk]
            exact z1
          · refine stay (fun z => cm z.2.2) ?_
            rw [e71]
            unfold f_X5_fillNext_71 f_X5_fillNext_96
            simp (disch := omega) only [z_0, z_1, z_2, z_3, z_4, z_5, z_6, z_7, z_8, z_9, z_10, z_11, z_12, z_14, z_18, z_20, z_22, z_24, z_32, z_38, z_40, z_41, z_44, z_48, z_49, z_57, z_59, z_60, z_63, z_65, z_74, z_75, z_81, z_97, z_99, z_104, z_115, z_119, z_122, z_200, z_209, z_210, z_219, z_228, z_255, z_300, z_369, z_999, z_65537, z_268435456, z_1000000000, n_nat, n_add, n_sub, n_mul, n_neg, n_lt, n_le, n_eq, n_ix, n_gd, n_nz, lz_t, bd_some, tn, Int.reduceToNat, tn_1, if_pos, if_neg, if_true, if_false, sk]
        · refine stay (fun z => cl z.2.1) ?_
          rw [f_X5_fillNext_5]
          simp (disch := omega) only [z_0, z_1, z_2, z_3, z_4, z_5, z_6, z_7, z_8, z_9, z_10, z_11, z_12, z_14, z_18, z_20, z_22, z_24, z_32, z_38, z_40, z_41, z_44, z_48, z_49, z_57, z_59, z_60, z_63, z_65, z_74, z_75, z_81, z_97, z_99, z_104, z_115, z_119, z_122, z_200, z_209, z_210, z_219, z_228, z_255, z_300, z_369, z_999, z_65537, z_268435456, z_1000000000, n_nat, n_add, n_sub, n_mul, n_neg, n_lt, n_le, n_eq, n_ix, n_gd, n_nz, lz_t, bd_some, tn, Int.reduceToNat, tn_1, if_pos, if_neg, if_true, if_false, q5, e9, p9, sp, bi_z, decide_eq_false_iff_not, f_X5_fillNext_96]
      · refine stay (fun z => ct z.1) ?_
        rw [f_X5_fillNext_5]
        simp (disch := omega) only [z_0, z_1, z_2, z_3, z_4, z_5, z_6, z_7, z_8, z_9, z_10, z_11, z_12, z_14, z_18, z_20, z_22, z_24, z_32, z_38, z_40, z_41, z_44, z_48, z_49, z_57, z_59, z_60, z_63, z_65, z_74, z_75, z_81, z_97, z_99, z_104, z_115, z_119, z_122, z_200, z_209, z_210, z_219, z_228, z_255, z_300, z_369, z_999, z_65537, z_268435456, z_1000000000, n_nat, n_add, n_sub, n_mul, n_neg, n_lt, n_le, n_eq, n_ix, n_gd, n_nz, lz_t, bd_some, tn, Int.reduceToNat, tn_1, if_pos, if_neg, if_true, if_false, q5, e9, bi_z, decide_eq_false_iff_not, f_X5_fillNext_96]
