/-! the net: the reference's rounds -/
def rep (s : MS) (N B : Nat → Nat → Int) : Prop := ∀ p f, p < 9 → f < 41 → s.2.2.1 28 (41 * p + f) = Int32.ofInt (N p f) ∧ s.2.2.1 29 (41 * p + f) = Int32.ofInt (B p f)
def FL2 (fl : Bool) (N B N' B' : Nat → Nat → Int) : Prop := (fl = false → (∀ p f, N' p f = N p f) ∧ (∀ p f, B' p f = B p f)) ∧ (fl = true → (∃ p f, p < 9 ∧ f < 41 ∧ N' p f < N p f) ∨ (∃ p f, p < 9 ∧ f < 41 ∧ B' p f < B p f))
def fI (fl : Bool) : Int := if fl then 1 else 0
theorem gB_self (r : Nat → Int32) (mn : Bool) (p f : Nat) (N B : Nat → Nat → Int) : gB r mn p f N B p f = B p f := by
  unfold gB
  rw [if_neg (by omega)]
theorem mB_row {p f : Nat} (c : Nat) (hc : c = 41 * p + f) : (41 * (p : Int) + (f : Int)).toNat = c := by omega
theorem gB_at {r : Nat → Int32} {mn : Bool} {p f k : Nat} {N B : Nat → Nat → Int} (hpm : 0 < pm r p) (hN : N p f < 1000000000) (hk : 1 ≤ k) (hT : f + k ≤ nT r) : gB r mn p f N B p (f + k) = if N p f + bc r mn p k < B p (f + k) then N p f + bc r mn p k else B p (f + k) := by
  unfold gB
  rw [show f + k - f = k by omega]
  by_cases c : N p f + bc r mn p k < B p (f + k)
  · rw [if_pos ⟨rfl, hpm, hN, by omega, hT, c⟩, if_pos c]
  · rw [if_neg (by omega), if_neg c]
def pB (r : Nat → Int32) (mn : Bool) (p f k : Nat) (N B : Nat → Nat → Int) (p' f' : Nat) : Int := if f' < f + k then gB r mn p f N B p' f' else B p' f'
theorem g36 {F : Nat} {r : Nat → Int32} (h : ROK r) {mp : Int32} {mn : Bool} (hm : mp = 0 ↔ mn = false) {p f : Nat} (hp : p < nP r) (hf : f ≤ nT r) (hpm : 0 < pm r p) {N B : Nat → Nat → Int} (hN : RG N) (hB : RG B) (hNf : N p f < 1000000000) : ∀ (d k n : Nat) (fl : Bool) (s : MS), k + d = nT r - f + 1 → 1 ≤ k → d < n → s.2.2.1 15 = r → rep s N (pB r mn p f k N B) → FL2 fl N B N (pB r mn p f k N B) →
    ∃ fl' s', f_X11_goes_36 F (Int32.ofInt (p : Int)) (Int32.ofInt (f : Int)) mp n (Int32.ofInt (fI fl)) (Int32.ofInt (N p f)) (Int32.ofInt (k : Int)) s = f_X11_goes_118 F (Int32.ofInt (p : Int)) (Int32.ofInt (f : Int)) mp (Int32.ofInt (fI fl')) (Int32.ofInt (N p f)) s' ∧ rep s' N (gB r mn p f N B) ∧ FL2 fl' N B N (gB r mn p f N B) ∧ KP s s' := by
  obtain ⟨c1, c2, c3, c4, c5⟩ := nTP h
  obtain ⟨t0, t1, t2, t3, t4, t5, t8, t9⟩ := ROKb h
  intro d
  induction d with
  | zero =>
    intro k n fl s hk hk1 hn hr hs hfl
    cases n with
    | zero => omega
    | succ n =>
      have r0 : s.2.2.1 15 0 = Int32.ofInt (rd r 0) := by rw [hr]; exact rd_e r 0
      have eB : ∀ p' f', pB r mn p f k N B p' f' = gB r mn p f N B p' f' := by
        intro p' f'
        unfold pB
        split
        · rfl
        · unfold gB
          rw [if_neg (by omega)]
      refine ⟨fl, s, ?_, ?_, ?_, KP_r s⟩
      · rw [f_X11_goes_36]
        simp (disch := omega) only [z_0, z_1, z_2, z_3, z_4, z_5, z_6, z_7, z_8, z_9, z_10, z_11, z_12, z_14, z_18, z_20, z_22, z_24, z_32, z_38, z_40, z_41, z_44, z_48, z_49, z_57, z_59, z_60, z_63, z_65, z_74, z_75, z_81, z_97, z_99, z_104, z_115, z_119, z_122, z_200, z_209, z_210, z_219, z_228, z_255, z_300, z_369, z_999, z_65537, z_268435456, z_1000000000, n_nat, n_add, n_sub, n_mul, n_neg, n_lt, n_le, n_eq, n_ix, n_gd, n_nz, lz_t, bd_some, tn, Int.reduceToNat, tn_1, if_pos, if_neg, if_true, if_false, r0]
      · intro p' f' h1 h2
        rw [← eB]
        exact hs p' f' h1 h2
      · constructor
        · intro q
          exact ⟨fun _ _ => rfl, fun p' f' => by rw [← eB]; exact (hfl.1 q).2 p' f'⟩
        · intro q
          rcases hfl.2 q with ⟨a, b, e1, e2, e3⟩ | ⟨a, b, e1, e2, e3⟩
          · omega
          · exact Or.inr ⟨a, b, e1, e2, by rw [← eB]; exact e3⟩
  | succ d ih =>
    intro k n fl s hk hk1 hn hr hs hfl
    cases n with
    | zero => omega
    | succ n =>
      have r0 : s.2.2.1 15 0 = Int32.ofInt (rd r 0) := by rw [hr]; exact rd_e r 0
      have r2 : s.2.2.1 15 2 = Int32.ofInt (rd r 2) := by rw [hr]; exact rd_e r 2
      have r3 : s.2.2.1 15 3 = Int32.ofInt (rd r 3) := by rw [hr]; exact rd_e r 3
      have pu := (A11_pump (F := F) hr (show p < 9 by omega)).1
      have pb := pm_b h (show p < 9 by omega)
      have bb := bc_b h mn (n := k) (show p < 9 by omega) (by omega)
      have nb := hN p f
      have bk := hB p (f + k)
      have cell := (hs p (f + k) (by omega) (by omega)).2
      have pk : pB r mn p f k N B p (f + k) = B p (f + k) := by unfold pB; rw [if_neg (by omega)]
      rw [pk] at cell
      have pn : ∀ p' f', (p' ≠ p ∨ f' ≠ f + k) → pB r mn p f (k + 1) N B p' f' = pB r mn p f k N B p' f' := by
        intro p' f' hne
        unfold pB
        by_cases a1 : f' < f + k
        · rw [if_pos a1, if_pos (by omega)]
        · rw [if_neg a1]
          by_cases a2 : f' < f + (k + 1)
          · rw [if_pos a2]
            unfold gB
            rw [if_neg (by omega)]
          · rw [if_neg a2]
      have pkk : pB r mn p f (k + 1) N B p (f + k) = if N p f + bc r mn p k < B p (f + k) then N p f + bc r mn p k else B p (f + k) := by
        unfold pB
        rw [if_pos (by omega)]
        exact gB_at hpm hNf hk1 (by omega)
      have ec : (41 * (p : Int) + (f : Int) + (k : Int)) = ((41 * p + (f + k) : Nat) : Int) := by omega
      have le := less_e (F := F) (n := 369) (k := 41 * p + (f + k)) (v := N p f + bc r mn p k) (by omega) (by omega) cell (by omega) (by omega) (by omega) (by omega)
      have e93 : f_X11_goes_36 F (Int32.ofInt (p : Int)) (Int32.ofInt (f : Int)) mp (n + 1) (Int32.ofInt (fI fl)) (Int32.ofInt (N p f)) (Int32.ofInt (k : Int)) s = f_X11_goes_93 F (Int32.ofInt (p : Int)) (Int32.ofInt (f : Int)) mp (f_X11_goes_36 F (Int32.ofInt (p : Int)) (Int32.ofInt (f : Int)) mp n) (Int32.ofInt (fI fl)) (Int32.ofInt (N p f)) (Int32.ofInt (k : Int)) (Int32.ofInt ((41 * p + (f + k) : Nat) : Int)) (Int32.ofInt (N p f)) (Int32.ofInt (bc r mn p k)) s := by
        rw [f_X11_goes_36]
        by_cases cm : mp = 0
        · have hmn : mn = false := hm.mp cm
          have be : bc r mn p k = (k : Int) * rd r (11 + 3 * p) + rd r 2 := by unfold bc pm; rw [hmn]; rfl
          rw [be, if_pos cm]
          simp (disch := omega) only [z_0, z_1, z_2, z_3, z_4, z_5, z_6, z_7, z_8, z_9, z_10, z_11, z_12, z_14, z_18, z_20, z_22, z_24, z_32, z_38, z_40, z_41, z_44, z_48, z_49, z_57, z_59, z_60, z_63, z_65, z_74, z_75, z_81, z_97, z_99, z_104, z_115, z_119, z_122, z_200, z_209, z_210, z_219, z_228, z_255, z_300, z_369, z_999, z_65537, z_268435456, z_1000000000, n_nat, n_add, n_sub, n_mul, n_neg, n_lt, n_le, n_eq, n_ix, n_gd, n_nz, lz_t, bd_some, tn, Int.reduceToNat, tn_1, if_pos, if_neg, if_true, if_false, r0, r2, pu, ec]
        · have hmn : mn = true := by cases mn with
            | true => rfl
            | false => exact absurd (hm.mpr rfl) cm
          have be : bc r mn p k = rd r 3 := by unfold bc; rw [hmn]; rfl
          rw [be, if_neg cm]
          simp (disch := omega) only [z_0, z_1, z_2, z_3, z_4, z_5, z_6, z_7, z_8, z_9, z_10, z_11, z_12, z_14, z_18, z_20, z_22, z_24, z_32, z_38, z_40, z_41, z_44, z_48, z_49, z_57, z_59, z_60, z_63, z_65, z_74, z_75, z_81, z_97, z_99, z_104, z_115, z_119, z_122, z_200, z_209, z_210, z_219, z_228, z_255, z_300, z_369, z_999, z_65537, z_268435456, z_1000000000, n_nat, n_add, n_sub, n_mul, n_neg, n_lt, n_le, n_eq, n_ix, n_gd, n_nz, lz_t, bd_some, tn, Int.reduceToNat, tn_1, if_pos, if_neg, if_true, if_false, r0, r3, ec]
      rw [e93]
      unfold f_X11_goes_93
      rw [n_add]
      by_cases c : N p f + bc r mn p k < B p (f + k)
      · rw [if_pos c] at le pkk
        obtain ⟨fl', s', z1, z2, z3, z4⟩ := ih (k + 1) n true (wA s 29 (upd (s.2.2.1 29) (41 * p + (f + k)) (Int32.ofInt (N p f + bc r mn p k)))) (by omega) (by omega) (by omega) (by simp (disch := omega) only [sI_a, sI_b, sL_a, sL_b, sL_c, wA_a, wA_b, wA_c, wA_d, wB_a, wB_b, wB_c, wB_d, sA_w, sB_w, uN_s, uN_n, up_s, up_n, ul_s, ul_n, p_fst, p_snd]; exact hr) (by
          intro p' f' h1 h2
          refine ⟨by simp (disch := omega) only [sI_a, sI_b, sL_a, sL_b, sL_c, wA_a, wA_b, wA_c, wA_d, wB_a, wB_b, wB_c, wB_d, sA_w, sB_w, uN_s, uN_n, up_s, up_n, ul_s, ul_n, p_fst, p_snd]; exact (hs p' f' h1 h2).1, ?_⟩
          by_cases e : p' = p ∧ f' = f + k
          · obtain ⟨rfl, rfl⟩ := e
            rw [pkk]
            simp (disch := omega) only [sI_a, sI_b, sL_a, sL_b, sL_c, wA_a, wA_b, wA_c, wA_d, wB_a, wB_b, wB_c, wB_d, sA_w, sB_w, uN_s, uN_n, up_s, up_n, ul_s, ul_n, p_fst, p_snd]
          · rw [pn p' f' (by omega)]
            simp (disch := omega) only [sI_a, sI_b, sL_a, sL_b, sL_c, wA_a, wA_b, wA_c, wA_d, wB_a, wB_b, wB_c, wB_d, sA_w, sB_w, uN_s, uN_n, up_s, up_n, ul_s, ul_n, p_fst, p_snd]
            exact (hs p' f' h1 h2).2) ⟨fun q => absurd q (by decide), fun _ => Or.inr ⟨p, f + k, by omega, by omega, by rw [pkk]; exact c⟩⟩
        refine ⟨fl', s', ?_, z2, z3, KP_t (KP_w _ _ (by omega)) z4⟩
        rw [le, bd_some, lz_t, p_fst, p_snd, if_neg (c := Int32.ofInt 1 = 0) (by decide)]
        simp only [f_X11_goes_105, f_X11_goes_110, lz_t, z_0, z_1, n_add]
        exact z1
      · rw [if_neg c] at le pkk
        obtain ⟨fl', s', z1, z2, z3, z4⟩ := ih (k + 1) n fl s (by omega) (by omega) (by omega) hr (by
          intro p' f' h1 h2
          refine ⟨(hs p' f' h1 h2).1, ?_⟩
          by_cases e : p' = p ∧ f' = f + k
          · obtain ⟨rfl, rfl⟩ := e
            rw [pkk]
            exact cell
          · rw [pn p' f' (by omega)]
            exact (hs p' f' h1 h2).2) (by
          have pe : ∀ p' f', pB r mn p f (k + 1) N B p' f' = pB r mn p f k N B p' f' := by
            intro p' f'
            by_cases e : p' = p ∧ f' = f + k
            · obtain ⟨rfl, rfl⟩ := e
              rw [pkk, pk]
            · exact pn p' f' (by omega)
          constructor
          · intro q
            exact ⟨fun _ _ => rfl, fun p' f' => by rw [pe]; exact (hfl.1 q).2 p' f'⟩
          · intro q
            rcases hfl.2 q with ⟨a, b, e1, e2, e3⟩ | ⟨a, b, e1, e2, e3⟩
            · omega
            · exact Or.inr ⟨a, b, e1, e2, by rw [pe]; exact e3⟩)
        refine ⟨fl', s', ?_, z2, z3, z4⟩
        rw [le, bd_some, lz_t, p_snd, wA_id, p_fst, if_pos (c := Int32.ofInt 0 = 0) rfl, ← z1]
        cases fl with
        | false =>
          rw [if_pos (c := Int32.ofInt (fI false) = 0) rfl]
          simp only [f_X11_goes_105, f_X11_goes_110, lz_t, z_0, z_1, n_add]
          rfl
        | true =>
          rw [if_neg (c := Int32.ofInt (fI true) = 0) (by decide)]
          simp only [f_X11_goes_105, f_X11_goes_110, lz_t, z_0, z_1, n_add]
          rfl
def pN (r : Nat → Int32) (mn : Bool) (p f k : Nat) (N B : Nat → Nat → Int) (q x : Nat) : Int := if q < k then gN r mn p f N B q x else N q x
theorem bob_f (fl : Bool) {α : Type} (k : Option α) : gd (bob (Int32.ofInt (fI fl))) k = k := by cases fl <;> rfl
theorem g155 {F : Nat} {r : Nat → Int32} (h : ROK r) {mp : Int32} {mn : Bool} (hm : mp = 0 ↔ mn = false) {p f : Nat} (hp : p < nP r) (hf : f ≤ nT r) {N B B' : Nat → Nat → Int} (hN : RG N) (hB : RG B) : ∀ (d k n : Nat) (fl : Bool) (s : MS), k + d = nP r → d < n → s.2.2.1 15 = r → rep s (pN r mn p f k N B) B' → FL2 fl N B (pN r mn p f k N B) B' →
    ∃ fl' s', f_X11_goes_155 F (Int32.ofInt (p : Int)) (Int32.ofInt (f : Int)) mp n (Int32.ofInt (fI fl)) (Int32.ofInt (ei N B p f)) (Int32.ofInt (k : Int)) s = some (Int32.ofInt (fI fl'), s') ∧ rep s' (gN r mn p f N B) B' ∧ FL2 fl' N B (gN r mn p f N B) B' ∧ KP s s' := by
  obtain ⟨c1, c2, c3, c4, c5⟩ := nTP h
  obtain ⟨t0, t1, t2, t3, t4, t5, t8, t9⟩ := ROKb h
  have eb : 0 ≤ ei N B p f ∧ ei N B p f ≤ 1000000000 := by
    have := ei_le N B p f
    have := hN p f
    have := hB p f
    omega
  have done : ∀ (k : Nat) (fl : Bool) (s : MS), (∀ q x, pN r mn p f k N B q x = gN r mn p f N B q x) → rep s (pN r mn p f k N B) B' → FL2 fl N B (pN r mn p f k N B) B' → rep s (gN r mn p f N B) B' ∧ FL2 fl N B (gN r mn p f N B) B' := by
    intro k fl s eN hs hfl
    have : pN r mn p f k N B = gN r mn p f N B := by funext q x; exact eN q x
    rw [this] at hs hfl
    exact ⟨hs, hfl⟩
  intro d
  induction d with
  | zero =>
    intro k n fl s hk hn hr hs hfl
    cases n with
    | zero => omega
    | succ n =>
      have r5 : s.2.2.1 15 5 = Int32.ofInt (rd r 5) := by rw [hr]; exact rd_e r 5
      obtain ⟨d1, d2⟩ := done k fl s (fun q x => by
        unfold pN
        split
        · rfl
        · unfold gN
          rw [if_neg (by omega)]) hs hfl
      refine ⟨fl, s, ?_, d1, d2, KP_r s⟩
      rw [f_X11_goes_155]
      simp (disch := omega) only [z_0, z_1, z_2, z_3, z_4, z_5, z_6, z_7, z_8, z_9, z_10, z_11, z_12, z_14, z_18, z_20, z_22, z_24, z_32, z_38, z_40, z_41, z_44, z_48, z_49, z_57, z_59, z_60, z_63, z_65, z_74, z_75, z_81, z_97, z_99, z_104, z_115, z_119, z_122, z_200, z_209, z_210, z_219, z_228, z_255, z_300, z_369, z_999, z_65537, z_268435456, z_1000000000, n_nat, n_add, n_sub, n_mul, n_neg, n_lt, n_le, n_eq, n_ix, n_gd, n_nz, lz_t, bd_some, tn, Int.reduceToNat, tn_1, if_pos, if_neg, if_true, if_false, r5, bob_f]
  | succ d ih =>
    intro k n fl s hk hn hr hs hfl
    cases n with
    | zero => omega
    | succ n =>
      have r5 : s.2.2.1 15 5 = Int32.ofInt (rd r 5) := by rw [hr]; exact rd_e r 5
      by_cases ce : ei N B p f < 1000000000
      · have tb := tk_b h (show p < 9 by omega) (show k < 9 by omega)
        have Br : f_X11_roadOf F s (Int32.ofInt (p : Int)) (Int32.ofInt (k : Int)) = some (Int32.ofInt (tk r p k)) := B_road (F := F) hr (show p < 9 by omega) (show k < 9 by omega)
        have lb := lc_b h mn (show p < 9 by omega) (show k < 9 by omega)
        have pn : ∀ q x, q ≠ k → pN r mn p f (k + 1) N B q x = pN r mn p f k N B q x := by
          intro q x hne
          unfold pN
          by_cases a1 : q < k
          · rw [if_pos a1, if_pos (by omega)]
          · rw [if_neg a1, if_neg (by omega)]
        have same : (∀ x, gN r mn p f N B k x = N k x) → pN r mn p f (k + 1) N B = pN r mn p f k N B := by
          intro hx
          funext q x
          by_cases e : q = k
          · subst e
            unfold pN
            rw [if_pos (by omega), if_neg (by omega)]
            exact hx x
          · exact pn q x e
        by_cases ct : 0 < tk r p k ∧ tk r p k ≤ (f : Int)
        · have ec : (41 * (k : Int) + (f : Int) - tk r p k) = ((41 * k + (f - (tk r p k).toNat) : Nat) : Int) := by omega
          have cell := (hs k (f - (tk r p k).toNat) (by omega) (by omega)).1
          have pk : pN r mn p f k N B k (f - (tk r p k).toNat) = N k (f - (tk r p k).toNat) := by unfold pN; rw [if_neg (by omega)]
          rw [pk] at cell
          have nk := hN k (f - (tk r p k).toNat)
          have gk : ∀ x, gN r mn p f N B k x = if x = f - (tk r p k).toNat ∧ ei N B p f + lc r mn p k < N k x then ei N B p f + lc r mn p k else N k x := by
            intro x
            unfold gN
            by_cases cx : x = f - (tk r p k).toNat ∧ ei N B p f + lc r mn p k < N k x
            · rw [if_pos cx, if_pos ⟨by omega, ct.1, ct.2, cx.1, ce, cx.2⟩]
            · rw [if_neg cx, if_neg (fun q => cx ⟨q.2.2.2.1, q.2.2.2.2.2⟩)]
          have le := less_e (F := F) (n := 369) (k := 41 * k + (f - (tk r p k).toNat)) (v := ei N B p f + lc r mn p k) (by omega) (by omega) cell (by omega) (by omega) (by omega) (by omega)
          have e239 : f_X11_goes_155 F (Int32.ofInt (p : Int)) (Int32.ofInt (f : Int)) mp (n + 1) (Int32.ofInt (fI fl)) (Int32.ofInt (ei N B p f)) (Int32.ofInt (k : Int)) s = f_X11_goes_239 F (Int32.ofInt (p : Int)) (Int32.ofInt (f : Int)) mp (f_X11_goes_155 F (Int32.ofInt (p : Int)) (Int32.ofInt (f : Int)) mp n) (Int32.ofInt (fI fl)) (Int32.ofInt (ei N B p f)) (Int32.ofInt (k : Int)) (Int32.ofInt ((41 * k + (f - (tk r p k).toNat) : Nat) : Int)) (Int32.ofInt (ei N B p f)) (Int32.ofInt (lc r mn p k)) s := by
            rw [f_X11_goes_155]
            by_cases cm : mp = 0
            · have hmn : mn = false := hm.mp cm
              have be : lc r mn p k = 0 := by unfold lc; rw [hmn]; rfl
              have cm' : mp = Int32.ofInt 0 := cm
              rw [be]
              simp (disch := omega) only [z_0, z_1, z_2, z_3, z_4, z_5, z_6, z_7, z_8, z_9, z_10, z_11, z_12, z_14, z_18, z_20, z_22, z_24, z_32, z_38, z_40, z_41, z_44, z_48, z_49, z_57, z_59, z_60, z_63, z_65, z_74, z_75, z_81, z_97, z_99, z_104, z_115, z_119, z_122, z_200, z_209, z_210, z_219, z_228, z_255, z_300, z_369, z_999, z_65537, z_268435456, z_1000000000, n_nat, n_add, n_sub, n_mul, n_neg, n_lt, n_le, n_eq, n_ix, n_gd, n_nz, lz_t, bd_some, tn, Int.reduceToNat, tn_1, if_pos, if_neg, if_true, if_false, r5, Br, ec, if_pos cm']
            · have hmn : mn = true := by cases mn with
                | true => rfl
                | false => exact absurd (hm.mpr rfl) cm
              have be : lc r mn p k = rd r (119 + (9 * p + k)) := by unfold lc; rw [hmn]; rfl
              have i119 : (119 + 9 * (p : Int) + (k : Int)).toNat = 119 + (9 * p + k) := by omega
              have r119 : s.2.2.1 15 (119 + (9 * p + k)) = Int32.ofInt (rd r (119 + (9 * p + k))) := by rw [hr]; exact rd_e r _
              have cm' : ¬ mp = Int32.ofInt 0 := cm
              rw [be]
              simp (disch := omega) only [z_0, z_1, z_2, z_3, z_4, z_5, z_6, z_7, z_8, z_9, z_10, z_11, z_12, z_14, z_18, z_20, z_22, z_24, z_32, z_38, z_40, z_41, z_44, z_48, z_49, z_57, z_59, z_60, z_63, z_65, z_74, z_75, z_81, z_97, z_99, z_104, z_115, z_119, z_122, z_200, z_209, z_210, z_219, z_228, z_255, z_300, z_369, z_999, z_65537, z_268435456, z_1000000000, n_nat, n_add, n_sub, n_mul, n_neg, n_lt, n_le, n_eq, n_ix, n_gd, n_nz, lz_t, bd_some, tn, Int.reduceToNat, tn_1, if_pos, if_neg, if_true, if_false, r5, Br, ec, i119, r119, if_neg cm']
          rw [e239]
          unfold f_X11_goes_239
          rw [n_add]
          by_cases c : ei N B p f + lc r mn p k < N k (f - (tk r p k).toNat)
          · rw [if_pos c] at le
            have gkk : gN r mn p f N B k (f - (tk r p k).toNat) = ei N B p f + lc r mn p k := by rw [gk, if_pos ⟨rfl, c⟩]
            obtain ⟨fl', s', z1, z2, z3, z4⟩ := ih (k + 1) n true (wA s 28 (upd (s.2.2.1 28) (41 * k + (f - (tk r p k).toNat)) (Int32.ofInt (ei N B p f + lc r mn p k)))) (by omega) (by omega) (by simp (disch := omega) only [sI_a, sI_b, sL_a, sL_b, sL_c, wA_a, wA_b, wA_c, wA_d, wB_a, wB_b, wB_c, wB_d, sA_w, sB_w, uN_s, uN_n, up_s, up_n, ul_s, ul_n, p_fst, p_snd]; exact hr) (by
              intro q x h1 h2
              refine ⟨?_, by simp (disch := omega) only [sI_a, sI_b, sL_a, sL_b, sL_c, wA_a, wA_b, wA_c, wA_d, wB_a, wB_b, wB_c, wB_d, sA_w, sB_w, uN_s, uN_n, up_s, up_n, ul_s, ul_n, p_fst, p_snd]; exact (hs q x h1 h2).2⟩
              by_cases e : q = k
              · subst e
                by_cases e2 : x = f - (tk r p q).toNat
                · subst e2
                  simp (disch := omega) only [sI_a, sI_b, sL_a, sL_b, sL_c, wA_a, wA_b, wA_c, wA_d, wB_a, wB_b, wB_c, wB_d, sA_w, sB_w, uN_s, uN_n, up_s, up_n, ul_s, ul_n, p_fst, p_snd]
                  unfold pN
                  rw [if_pos (by omega), gkk]
                · simp (disch := omega) only [sI_a, sI_b, sL_a, sL_b, sL_c, wA_a, wA_b, wA_c, wA_d, wB_a, wB_b, wB_c, wB_d, sA_w, sB_w, uN_s, uN_n, up_s, up_n, ul_s, ul_n, p_fst, p_snd]
                  rw [(hs q x h1 h2).1]
                  unfold pN
                  rw [if_neg (by omega), if_pos (by omega), gk, if_neg (fun z => e2 z.1)]
              · rw [pn q x e]
                simp (disch := omega) only [sI_a, sI_b, sL_a, sL_b, sL_c, wA_a, wA_b, wA_c, wA_d, wB_a, wB_b, wB_c, wB_d, sA_w, sB_w, uN_s, uN_n, up_s, up_n, ul_s, ul_n, p_fst, p_snd]
                exact (hs q x h1 h2).1) ⟨fun q => absurd q (by decide), fun _ => Or.inl ⟨k, f - (tk r p k).toNat, by omega, by omega, by
                  unfold pN
                  rw [if_pos (by omega), gkk]
                  exact c⟩⟩
            refine ⟨fl', s', ?_, z2, z3, KP_t (KP_w _ _ (by omega)) z4⟩
            rw [le, bd_some, lz_t, p_fst, p_snd, if_neg (c := Int32.ofInt 1 = 0) (by decide)]
            simp only [f_X11_goes_251, f_X11_goes_256, f_X11_goes_258, lz_t, z_0, z_1, n_add]
            exact z1
          · rw [if_neg c] at le
            have sm := same (fun x => by
              rw [gk, if_neg]
              rintro ⟨rfl, q⟩
              exact c q)
            rw [← sm] at hs hfl
            obtain ⟨fl', s', z1, z2, z3, z4⟩ := ih (k + 1) n fl s (by omega) (by omega) hr hs hfl
            refine ⟨fl', s', ?_, z2, z3, z4⟩
            rw [le, bd_some, lz_t, p_snd, wA_id, p_fst, if_pos (c := Int32.ofInt 0 = 0) rfl, ← z1]
            cases fl with
            | false =>
              rw [if_pos (c := Int32.ofInt (fI false) = 0) rfl]
              simp only [f_X11_goes_251, f_X11_goes_256, f_X11_goes_258, lz_t, z_0, z_1, n_add]
              rfl
            | true =>
              rw [if_neg (c := Int32.ofInt (fI true) = 0) (by decide)]
              simp only [f_X11_goes_251, f_X11_goes_256, f_X11_goes_258, lz_t, z_0, z_1, n_add]
              rfl
        · have sm := same (fun x => by
            unfold gN
            rw [if_neg (fun q => ct ⟨q.2.1, q.2.2.1⟩)])
          rw [← sm] at hs hfl
          obtain ⟨fl', s', z1, z2, z3, z4⟩ := ih (k + 1) n fl s (by omega) (by omega) hr hs hfl
          refine ⟨fl', s', ?_, z2, z3, z4⟩
          rw [f_X11_goes_155]
          by_cases ct2 : tk r p k ≤ 0
          · simp (disch := omega) only [z_0, z_1, z_2, z_3, z_4, z_5, z_6, z_7, z_8, z_9, z_10, z_11, z_12, z_14, z_18, z_20, z_22, z_24, z_32, z_38, z_40, z_41, z_44, z_48, z_49, z_57, z_59, z_60, z_63, z_65, z_74, z_75, z_81, z_97, z_99, z_104, z_115, z_119, z_122, z_200, z_209, z_210, z_219, z_228, z_255, z_300, z_369, z_999, z_65537, z_268435456, z_1000000000, n_nat, n_add, n_sub, n_mul, n_neg, n_lt, n_le, n_eq, n_ix, n_gd, n_nz, lz_t, bd_some, tn, Int.reduceToNat, tn_1, if_pos, if_neg, if_true, if_false, r5, Br, f_X11_goes_258]
            exact z1
          · simp (disch := omega) only [z_0, z_1, z_2, z_3, z_4, z_5, z_6, z_7, z_8, z_9, z_10, z_11, z_12, z_14, z_18, z_20, z_22, z_24, z_32, z_38, z_40, z_41, z_44, z_48, z_49, z_57, z_59, z_60, z_63, z_65, z_74, z_75, z_81, z_97, z_99, z_104, z_115, z_119, z_122, z_200, z_209, z_210, z_219, z_228, z_255, z_300, z_369, z_999, z_65537, z_268435456, z_1000000000, n_nat, n_add, n_sub, n_mul, n_neg, n_lt, n_le, n_eq, n_ix, n_gd, n_nz, lz_t, bd_some, tn, Int.reduceToNat, tn_1, if_pos, if_neg, if_true, if_false, r5, Br, f_X11_goes_258]
            exact z1
      · obtain ⟨d1, d2⟩ := done k fl s (fun q x => by
          unfold pN
          split
          · rfl
          · unfold gN
            rw [if_neg (by omega)]) hs hfl
        refine ⟨fl, s, ?_, d1, d2, KP_r s⟩
        rw [f_X11_goes_155]
        simp (disch := omega) only [z_0, z_1, z_2, z_3, z_4, z_5, z_6, z_7, z_8, z_9, z_10, z_11, z_12, z_14, z_18, z_20, z_22, z_24, z_32, z_38, z_40, z_41, z_44, z_48, z_49, z_57, z_59, z_60, z_63, z_65, z_74, z_75, z_81, z_97, z_99, z_104, z_115, z_119, z_122, z_200, z_209, z_210, z_219, z_228, z_255, z_300, z_369, z_999, z_65537, z_268435456, z_1000000000, n_nat, n_add, n_sub, n_mul, n_neg, n_lt, n_le, n_eq, n_ix, n_gd, n_nz, lz_t, bd_some, tn, Int.reduceToNat, tn_1, if_pos, if_neg, if_true, if_false, r5, bob_f]
theorem goes_e {F : Nat} (hF : 100 ≤ F) {r : Nat → Int32} (h : ROK r) {mp : Int32} {mn : Bool} (hm : mp = 0 ↔ mn = false) {p f : Nat} (hp : p < nP r) (hf : f ≤ nT r) {N B : Nat → Nat → Int} (hN : RG N) (hB : RG B) (s : MS) (hr : s.2.2.1 15 = r) (hs : rep s N B) :
    ∃ fl' s', f_X11_goes F (Int32.ofInt (p : Int)) (Int32.ofInt (f : Int)) mp s = some (Int32.ofInt (fI fl'), s') ∧ rep s' (gN r mn p f N B) (gB r mn p f N B) ∧ FL2 fl' N B (gN r mn p f N B) (gB r mn p f N B) ∧ KP s s' := by
  obtain ⟨c1, c2, c3, c4, c5⟩ := nTP h
  have nb := hN p f
  have bb := hB p f
  have pb := pm_b h (show p < 9 by omega)
  have c28 := (hs p f (by omega) (by omega)).1
  have pu : f_X11_pumpOf F s (Int32.ofInt (p : Int)) (Int32.ofInt 0) = some (Int32.ofInt (pm r p)) := (A11_pump (F := F) hr (show p < 9 by omega)).1
  have e118 : ∀ (fl : Bool) (s1 : MS), KP s s1 → rep s1 N (gB r mn p f N B) → FL2 fl N B N (gB r mn p f N B) → ∃ fl' s', f_X11_goes_118 F (Int32.ofInt (p : Int)) (Int32.ofInt (f : Int)) mp (Int32.ofInt (fI fl)) (Int32.ofInt (N p f)) s1 = some (Int32.ofInt (fI fl'), s') ∧ rep s' (gN r mn p f N B) (gB r mn p f N B) ∧ FL2 fl' N B (gN r mn p f N B) (gB r mn p f N B) ∧ KP s s' := by
    intro fl s1 k1 hs1 hfl
    have hr1 : s1.2.2.1 15 = r := (k1.2 15 (by omega)).trans hr
    have p0 : pN r mn p f 0 N B = N := by
      funext q x
      unfold pN
      rw [if_neg (by omega)]
    obtain ⟨fl', s', z1, z2, z3, z4⟩ := g155 (F := F) h hm hp hf (B' := gB r mn p f N B) hN hB (nP r) 0 F fl s1 (by omega) (by omega) hr1 (by rw [p0]; exact hs1) (by rw [p0]; exact hfl)
    have c29 := (hs1 p f (by omega) (by omega)).2
    rw [gB_self] at c29
    refine ⟨fl', s', ?_, z2, z3, KP_t k1 z4⟩
    have z1' : f_X11_goes_155 F (Int32.ofInt (p : Int)) (Int32.ofInt (f : Int)) mp F (Int32.ofInt (fI fl)) (Int32.ofInt (ei N B p f)) (Int32.ofInt 0) s1 = _ := z1
    unfold f_X11_goes_118 f_X11_goes_150
    unfold ei at z1'
    by_cases c : N p f < B p f
    · rw [if_pos c] at z1'
      simp (disch := omega) only [z_0, z_1, z_2, z_3, z_4, z_5, z_6, z_7, z_8, z_9, z_10, z_11, z_12, z_14, z_18, z_20, z_22, z_24, z_32, z_38, z_40, z_41, z_44, z_48, z_49, z_57, z_59, z_60, z_63, z_65, z_74, z_75, z_81, z_97, z_99, z_104, z_115, z_119, z_122, z_200, z_209, z_210, z_219, z_228, z_255, z_300, z_369, z_999, z_65537, z_268435456, z_1000000000, n_nat, n_add, n_sub, n_mul, n_neg, n_lt, n_le, n_eq, n_ix, n_gd, n_nz, lz_t, bd_some, tn, Int.reduceToNat, tn_1, if_pos, if_neg, if_true, if_false, tn_41, c29, z1']
    · rw [if_neg c] at z1'
      simp (disch := omega) only [z_0, z_1, z_2, z_3, z_4, z_5, z_6, z_7, z_8, z_9, z_10, z_11, z_12, z_14, z_18, z_20, z_22, z_24, z_32, z_38, z_40, z_41, z_44, z_48, z_49, z_57, z_59, z_60, z_63, z_65, z_74, z_75, z_81, z_97, z_99, z_104, z_115, z_119, z_122, z_200, z_209, z_210, z_219, z_228, z_255, z_300, z_369, z_999, z_65537, z_268435456, z_1000000000, n_nat, n_add, n_sub, n_mul, n_neg, n_lt, n_le, n_eq, n_ix, n_gd, n_nz, lz_t, bd_some, tn, Int.reduceToNat, tn_1, if_pos, if_neg, if_true, if_false, tn_41, c29, z1']
  unfold f_X11_goes
  by_cases cn : N p f < 1000000000
  · by_cases cp : 0 < pm r p
    · have pB1 : pB r mn p f 1 N B = B := by
        funext p' f'
        unfold pB
        split
        · unfold gB
          rw [if_neg (by omega)]
        · rfl
      obtain ⟨fl, s1, y1, y2, y3, y4⟩ := g36 (F := F) h hm hp hf cp hN hB cn (nT r - f) 1 F false s (by omega) (by omega) (by omega) hr (by rw [pB1]; exact hs) (by rw [pB1]; exact ⟨fun _ => ⟨fun _ _ => rfl, fun _ _ => rfl⟩, fun q => absurd q (by decide)⟩)
      obtain ⟨fl', s', z1, z2, z3, z4⟩ := e118 fl s1 y4 y2 y3
      refine ⟨fl', s', ?_, z2, z3, z4⟩
      rw [← z1]
      have y1' : f_X11_goes_36 F (Int32.ofInt (p : Int)) (Int32.ofInt (f : Int)) mp F (Int32.ofInt 0) (Int32.ofInt (N p f)) (Int32.ofInt 1) s = _ := y1
      simp (disch := omega) only [z_0, z_1, z_2, z_3, z_4, z_5, z_6, z_7, z_8, z_9, z_10, z_11, z_12, z_14, z_18, z_20, z_22, z_24, z_32, z_38, z_40, z_41, z_44, z_48, z_49, z_57, z_59, z_60, z_63, z_65, z_74, z_75, z_81, z_97, z_99, z_104, z_115, z_119, z_122, z_200, z_209, z_210, z_219, z_228, z_255, z_300, z_369, z_999, z_65537, z_268435456, z_1000000000, n_nat, n_add, n_sub, n_mul, n_neg, n_lt, n_le, n_eq, n_ix, n_gd, n_nz, lz_t, bd_some, tn, Int.reduceToNat, tn_1, if_pos, if_neg, if_true, if_false, tn_41, c28, pu, y1']
    · have gBB : gB r mn p f N B = B := by
        funext p' f'
        unfold gB
        rw [if_neg (by omega)]
      obtain ⟨fl', s', z1, z2, z3, z4⟩ := e118 false s (KP_r s) (by rw [gBB]; exact hs) (by rw [gBB]; exact ⟨fun _ => ⟨fun _ _ => rfl, fun _ _ => rfl⟩, fun q => absurd q (by decide)⟩)
      refine ⟨fl', s', ?_, z2, z3, z4⟩
      have z1' : f_X11_goes_118 F (Int32.ofInt (p : Int)) (Int32.ofInt (f : Int)) mp (Int32.ofInt 0) (Int32.ofInt (N p f)) s = _ := z1
      simp (disch := omega) only [z_0, z_1, z_2, z_3, z_4, z_5, z_6, z_7, z_8, z_9, z_10, z_11, z_12, z_14, z_18, z_20, z_22, z_24, z_32, z_38, z_40, z_41, z_44, z_48, z_49, z_57, z_59, z_60, z_63, z_65, z_74, z_75, z_81, z_97, z_99, z_104, z_115, z_119, z_122, z_200, z_209, z_210, z_219, z_228, z_255, z_300, z_369, z_999, z_65537, z_268435456, z_1000000000, n_nat, n_add, n_sub, n_mul, n_neg, n_lt, n_le, n_eq, n_ix, n_gd, n_nz, lz_t, bd_some, tn, Int.reduceToNat, tn_1, if_pos, if_neg, if_true, if_false, tn_41, c28, pu, z1']
  · have gBB : gB r mn p f N B = B := by
      funext p' f'
      unfold gB
      rw [if_neg (by omega)]
    obtain ⟨fl', s', z1, z2, z3, z4⟩ := e118 false s (KP_r s) (by rw [gBB]; exact hs) (by rw [gBB]; exact ⟨fun _ => ⟨fun _ _ => rfl, fun _ _ => rfl⟩, fun q => absurd q (by decide)⟩)
    refine ⟨fl', s', ?_, z2, z3, z4⟩
    have z1' : f_X11_goes_118 F (Int32.ofInt (p : Int)) (Int32.ofInt (f : Int)) mp (Int32.ofInt 0) (Int32.ofInt (N p f)) s = _ := z1
    simp (disch := omega) only [z_0, z_1, z_2, z_3, z_4, z_5, z_6, z_7, z_8, z_9, z_10, z_11, z_12, z_14, z_18, z_20, z_22, z_24, z_32, z_38, z_40, z_41, z_44, z_48, z_49, z_57, z_59, z_60, z_63, z_65, z_74, z_75, z_81, z_97, z_99, z_104, z_115, z_119, z_122, z_200, z_209, z_210, z_219, z_228, z_255, z_300, z_369, z_999, z_65537, z_268435456, z_1000000000, n_nat, n_add, n_sub, n_mul, n_neg, n_lt, n_le, n_eq, n_ix, n_gd, n_nz, lz_t, bd_some, tn, Int.reduceToNat, tn_1, if_pos, if_neg, if_true, if_false, tn_41, c28, z1']
