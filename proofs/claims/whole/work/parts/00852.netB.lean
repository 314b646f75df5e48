/-! the net: the class's model -/
def pr' (r : Nat → Int32) (mn : Bool) (p : Nat) : Int := if mn then 0 else pm r p
def st' (r : Nat → Int32) (mn : Bool) : Int := if mn then rd r 3 else rd r 2
theorem bc_e (r : Nat → Int32) (mn : Bool) (p n : Nat) : bc r mn p n = pr' r mn p * (n : Int) + st' r mn := by
  unfold bc pr' st'
  cases mn with
  | true => simp
  | false => simp [Int.mul_comm]
theorem pr_b' {r : Nat → Int32} (h : ROK r) (mn : Bool) {p : Nat} (hp : p < 9) : 0 ≤ pr' r mn p ∧ pr' r mn p ≤ 99 := by
  have := pm_b h hp
  unfold pr'
  split <;> omega
theorem st_b' {r : Nat → Int32} (h : ROK r) (mn : Bool) : 0 ≤ st' r mn ∧ st' r mn ≤ 99 := by
  obtain ⟨t0, t1, t2, t3, t4, t5, t8, t9⟩ := ROKb h
  unfold st'
  split <;> omega
def bst (pr : Int) (c : Nat → Int) : Nat → Int
  | 0 => 268435456
  | f + 1 => if c f < 1000000000 then (if c f - pr * (f : Int) < bst pr c f then c f - pr * (f : Int) else bst pr c f) else bst pr c f
theorem bst_s (pr : Int) (c : Nat → Int) (f : Nat) : bst pr c (f + 1) = if c f < 1000000000 then (if c f - pr * (f : Int) < bst pr c f then c f - pr * (f : Int) else bst pr c f) else bst pr c f := rfl
def cOK (c : Nat → Int) (B : Int) : Prop := ∀ f, f ≤ 40 → c f = 1000000000 ∨ (0 ≤ c f ∧ c f ≤ B)
theorem bst_sp {pr : Int} {c : Nat → Int} {B : Int} (hp : 0 ≤ pr) (hp2 : pr ≤ 99) (hc : cOK c B) (hB : B ≤ 100000000) : ∀ f, f ≤ 41 → ((bst pr c f = 268435456 ∧ ∀ g, g < f → c g = 1000000000) ∨ (bst pr c f ≤ B ∧ ∃ g, g < f ∧ c g < 1000000000 ∧ bst pr c f = c g - pr * (g : Int))) ∧ (∀ g, g < f → c g < 1000000000 → bst pr c f ≤ c g - pr * (g : Int))
  | 0, _ => ⟨Or.inl ⟨rfl, fun g hg => by omega⟩, fun g hg => by omega⟩
  | f + 1, hf => by
    obtain ⟨a, b⟩ := bst_sp hp hp2 hc hB f (by omega)
    have cf := hc f (by omega)
    have m := mulg hp hp2 (show 0 ≤ (f : Int) by omega) (show (f : Int) ≤ 40 by omega)
    rw [bst_s]
    by_cases c1 : c f < 1000000000
    · rw [if_pos c1]
      by_cases c2 : c f - pr * (f : Int) < bst pr c f
      · rw [if_pos c2]
        refine ⟨Or.inr ⟨by omega, f, by omega, c1, rfl⟩, ?_⟩
        intro g hg hc'
        by_cases e : g = f
        · subst e; omega
        · have := b g (by omega) hc'; omega
      · rw [if_neg c2]
        refine ⟨?_, ?_⟩
        · rcases a with ⟨a1, a2⟩ | ⟨a0, g, a1, a2, a3⟩
          · omega
          · exact Or.inr ⟨a0, g, by omega, a2, a3⟩
        · intro g hg hc'
          by_cases e : g = f
          · subst e; omega
          · exact b g (by omega) hc'
    · rw [if_neg c1]
      refine ⟨?_, ?_⟩
      · rcases a with ⟨a1, a2⟩ | ⟨a0, g, a1, a2, a3⟩
        · refine Or.inl ⟨a1, ?_⟩
          intro g hg
          by_cases e : g = f
          · subst e; omega
          · exact a2 g (by omega)
        · exact Or.inr ⟨a0, g, by omega, a2, a3⟩
      · intro g hg hc'
        by_cases e : g = f
        · subst e; omega
        · exact b g (by omega) hc'
def cG (r : Nat → Int32) (mn : Bool) (p : Nat) (c : Nat → Int) (f : Nat) : Int := if 0 < pm r p ∧ bst (pr' r mn p) c f < 268435456 then (if bst (pr' r mn p) c f + pr' r mn p * (f : Int) + st' r mn < c f then bst (pr' r mn p) c f + pr' r mn p * (f : Int) + st' r mn else c f) else c f
theorem cG_sp {r : Nat → Int32} (h : ROK r) (mn : Bool) {p : Nat} (hp : p < 9) {c : Nat → Int} {B : Int} (hc : cOK c B) (hB : B ≤ 100000000) {f : Nat} (hf : f ≤ 40) : cG r mn p c f ≤ c f ∧ (∀ g, g < f → 0 < pm r p → c g < 1000000000 → cG r mn p c f ≤ c g + bc r mn p (f - g)) ∧ (cG r mn p c f = c f ∨ (0 < pm r p ∧ ∃ g, g < f ∧ c g < 1000000000 ∧ cG r mn p c f = c g + bc r mn p (f - g))) ∧ (cG r mn p c f = 1000000000 ∨ (0 ≤ cG r mn p c f ∧ cG r mn p c f ≤ B + 4059)) := by
  have pb := pr_b' h mn hp
  have sb := st_b' h mn
  obtain ⟨a, b⟩ := bst_sp pb.1 pb.2 hc hB f (by omega)
  have cf := hc f hf
  have key : ∀ g, g < f → c g - pr' r mn p * (g : Int) + pr' r mn p * (f : Int) + st' r mn = c g + bc r mn p (f - g) := by
    intro g hg
    rw [bc_e, show ((f - g : Nat) : Int) = (f : Int) - (g : Int) by omega, Int.mul_sub]
    omega
  unfold cG
  by_cases c1 : 0 < pm r p ∧ bst (pr' r mn p) c f < 268435456
  · rw [if_pos c1]
    rcases a with ⟨a1, a2⟩ | ⟨a0, g, a1, a2, a3⟩
    · omega
    · have kg := key g a1
      have cg := hc g (by omega)
      have bb := bc_b h mn (n := f - g) hp (by omega)
      by_cases c2 : bst (pr' r mn p) c f + pr' r mn p * (f : Int) + st' r mn < c f
      · rw [if_pos c2]
        refine ⟨by omega, ?_, Or.inr ⟨c1.1, g, a1, a2, by omega⟩, by omega⟩
        intro g' hg' _ hc'
        have := b g' hg' hc'
        have := key g' hg'
        omega
      · rw [if_neg c2]
        refine ⟨by omega, ?_, Or.inl rfl, by omega⟩
        intro g' hg' _ hc'
        have := b g' hg' hc'
        have := key g' hg'
        omega
  · rw [if_neg c1]
    refine ⟨by omega, ?_, Or.inl rfl, by omega⟩
    intro g' hg' hpm hc'
    have := b g' hg' hc'
    have cg := hc g' (by omega)
    rcases a with ⟨a1, a2⟩ | ⟨a0, g, a1, a2, a3⟩
    · have := a2 g' hg'
      omega
    · have m := mulg pb.1 pb.2 (show 0 ≤ (g : Int) by omega) (show (g : Int) ≤ 40 by omega)
      have := hc g (by omega)
      exact absurd ⟨hpm, by omega⟩ c1
def cP (r : Nat → Int32) (mn : Bool) (p : Nat) (C : Nat → Nat → Int) (q x : Nat) : Int := if q < nP r ∧ 0 < tk r p q ∧ x + (tk r p q).toNat ≤ nT r ∧ cG r mn p (C p) (x + (tk r p q).toNat) < 1000000000 ∧ cG r mn p (C p) (x + (tk r p q).toNat) + lc r mn p q < C q x then cG r mn p (C p) (x + (tk r p q).toNat) + lc r mn p q else C q x
theorem cP_le (r : Nat → Int32) (mn : Bool) (p : Nat) (C : Nat → Nat → Int) (q x : Nat) : cP r mn p C q x ≤ C q x := by
  unfold cP
  split <;> omega
def COK (C : Nat → Nat → Int) (B : Int) : Prop := ∀ p, cOK (C p) B
theorem cP_ok {r : Nat → Int32} (h : ROK r) (mn : Bool) {p : Nat} (hp : p < 9) {C : Nat → Nat → Int} {B : Int} (hC : COK C B) (hB : B ≤ 100000000) : COK (cP r mn p C) (B + 4158) := by
  intro q x hx
  have a := hC q x hx
  obtain ⟨c1, c2, c3, c4, c5⟩ := nTP h
  unfold cP
  split
  · rename_i e
    have := (cG_sp h mn hp (hC p) hB (f := x + (tk r p q).toNat) (by omega)).2.2.2
    have := lc_b h mn hp (show q < 9 by omega)
    omega
  · omega
/-- never below what is least -/
theorem cP_lo {r : Nat → Int32} (h : ROK r) {mn : Bool} {M Q : Nat → Nat → Int} (hM : RG M) (hC : Clo r mn M Q) {p : Nat} (hp : p < nP r) {C : Nat → Nat → Int} {B : Int} (hC2 : COK C B) (hB : B ≤ 100000000) (hlo : ∀ q x, x ≤ 40 → M q x ≤ C q x) : ∀ q x, x ≤ 40 → M q x ≤ cP r mn p C q x := by
  intro q x hx
  obtain ⟨c1, c2, c3, c4, c5⟩ := nTP h
  unfold cP
  split
  · rename_i e
    obtain ⟨e1, e2, e3, e4, e5⟩ := e
    have tb := tk_b h (show p < 9 by omega) (show q < 9 by omega)
    obtain ⟨-, -, sp, -⟩ := cG_sp h mn (show p < 9 by omega) (hC2 p) hB (f := x + (tk r p q).toNat) (by omega)
    have ex : x + (tk r p q).toNat - (tk r p q).toNat = x := by omega
    have el := ei_le M Q p (x + (tk r p q).toNat)
    rcases sp with k | ⟨k1, g, k2, k3, k4⟩
    · have lo := hlo p (x + (tk r p q).toNat) (by omega)
      have cl := (hC p (x + (tk r p q).toNat) hp (by omega)).2 q e1 e2 (by omega) (by omega)
      rw [ex] at cl
      omega
    · have lo := hlo p g (by omega)
      have cb := (hC p g hp (by omega)).1 k1 (by omega) (x + (tk r p q).toNat) k2 (by omega)
      have cl := (hC p (x + (tk r p q).toNat) hp (by omega)).2 q e1 e2 (by omega) (by omega)
      rw [ex] at cl
      omega
  · exact hlo q x hx
/-- a tight road carries what is final -/
theorem cP_ti {r : Nat → Int32} (h : ROK r) {mn : Bool} {M : Nat → Nat → Int} {p : Nat} (hp : p < nP r) {C : Nat → Nat → Int} {B : Int} (hC2 : COK C B) (hB : B ≤ 100000000) {g q f : Nat} (h2 : g ≤ f) (h3 : f ≤ nT r) (h4 : g = f ∨ 0 < pm r p) (h5 : q < nP r) (h6 : 0 < tk r p q) (h7 : tk r p q ≤ (f : Int)) (h8 : M p g < 1000000000) (h9 : M q (f - (tk r p q).toNat) < 1000000000) (h10 : M q (f - (tk r p q).toNat) = M p g + (if g = f then 0 else bc r mn p (f - g)) + lc r mn p q) (hg : C p g = M p g) : cP r mn p C q (f - (tk r p q).toNat) ≤ M q (f - (tk r p q).toNat) := by
  obtain ⟨c1, c2, c3, c4, c5⟩ := nTP h
  obtain ⟨sp1, sp2, -, -⟩ := cG_sp h mn (show p < 9 by omega) (hC2 p) hB (f := f) (by omega)
  have ef : f - (tk r p q).toNat + (tk r p q).toNat = f := by omega
  have lb := lc_b h mn (show p < 9 by omega) (show q < 9 by omega)
  have le : cG r mn p (C p) f + lc r mn p q ≤ M q (f - (tk r p q).toNat) := by
    by_cases e : g = f
    · subst e
      rw [if_pos rfl] at h10
      omega
    · rw [if_neg e] at h10
      have := sp2 g (by omega) (by omega) (by omega)
      omega
  unfold cP
  rw [ef]
  split
  · omega
  · rename_i e
    rcases Int.lt_or_le (cG r mn p (C p) f + lc r mn p q) (C q (f - (tk r p q).toNat)) with k | k
    · exact absurd ⟨h5, h6, h3, by omega, k⟩ e
    · omega
def nRd (r : Nat → Int32) (mn : Bool) : Nat → Nat → (Nat → Nat → Int) → Nat → Nat → Int
  | 0, _, C => C
  | d + 1, k, C => nRd r mn d (k + 1) (cP r mn k C)
theorem nRd_ok {r : Nat → Int32} (h : ROK r) (mn : Bool) : ∀ (d k : Nat) (C : Nat → Nat → Int) (B : Int), k + d ≤ nP r → COK C B → B + 4158 * d ≤ 100000000 → COK (nRd r mn d k C) (B + 4158 * d)
  | 0, k, C, B, _, hC, _ => fun p f hf => by
    have := hC p f hf
    show C p f = _ ∨ 0 ≤ C p f ∧ C p f ≤ _
    omega
  | d + 1, k, C, B, hk, hC, hB => by
    obtain ⟨c1, c2, c3, c4, c5⟩ := nTP h
    have := nRd_ok h mn d (k + 1) (cP r mn k C) (B + 4158) (by omega) (cP_ok h mn (by omega) hC (by omega)) (by omega)
    intro p f hf
    have := this p f hf
    show nRd r mn d (k + 1) (cP r mn k C) p f = _ ∨ 0 ≤ nRd r mn d (k + 1) (cP r mn k C) p f ∧ nRd r mn d (k + 1) (cP r mn k C) p f ≤ _
    omega
theorem nRd_lo {r : Nat → Int32} (h : ROK r) {mn : Bool} {M Q : Nat → Nat → Int} (hM : RG M) (hC : Clo r mn M Q) : ∀ (d k : Nat) (C : Nat → Nat → Int) (B : Int), k + d ≤ nP r → COK C B → B + 4158 * d ≤ 100000000 → (∀ q x, x ≤ 40 → M q x ≤ C q x) → ∀ q x, x ≤ 40 → M q x ≤ nRd r mn d k C q x ∧ nRd r mn d k C q x ≤ C q x
  | 0, k, C, B, _, _, _, hlo => fun q x hx => ⟨hlo q x hx, Int.le_refl _⟩
  | d + 1, k, C, B, hk, hC2, hB, hlo => by
    obtain ⟨c1, c2, c3, c4, c5⟩ := nTP h
    intro q x hx
    have := nRd_lo h hM hC d (k + 1) (cP r mn k C) (B + 4158) (by omega) (cP_ok h mn (by omega) hC2 (by omega)) (by omega) (cP_lo h hM hC (by omega) hC2 (by omega) hlo) q x hx
    have := cP_le r mn k C q x
    show M q x ≤ nRd r mn d (k + 1) (cP r mn k C) q x ∧ nRd r mn d (k + 1) (cP r mn k C) q x ≤ _
    omega
theorem nRd_ti {r : Nat → Int32} (h : ROK r) {mn : Bool} {M Q : Nat → Nat → Int} (hM : RG M) (hC : Clo r mn M Q) {p g q f : Nat} (h2 : g ≤ f) (h3 : f ≤ nT r) (h4 : g = f ∨ 0 < pm r p) (h5 : q < nP r) (h6 : 0 < tk r p q) (h7 : tk r p q ≤ (f : Int)) (h8 : M p g < 1000000000) (h9 : M q (f - (tk r p q).toNat) < 1000000000) (h10 : M q (f - (tk r p q).toNat) = M p g + (if g = f then 0 else bc r mn p (f - g)) + lc r mn p q) : ∀ (d k : Nat) (C : Nat → Nat → Int) (B : Int), k + d ≤ nP r → k ≤ p → p < k + d → COK C B → B + 4158 * d ≤ 100000000 → (∀ q x, x ≤ 40 → M q x ≤ C q x) → C p g = M p g → nRd r mn d k C q (f - (tk r p q).toNat) = M q (f - (tk r p q).toNat)
  | 0, k, C, B, _, _, _, _, _, _, _ => by omega
  | d + 1, k, C, B, hk, hk1, hk2, hC2, hB, hlo, hg => by
    obtain ⟨c1, c2, c3, c4, c5⟩ := nTP h
    have ok' := cP_ok h mn (show k < 9 by omega) hC2 (by omega)
    have lo' := cP_lo h hM hC (show k < nP r by omega) hC2 (by omega) hlo
    show nRd r mn d (k + 1) (cP r mn k C) q (f - (tk r p q).toNat) = _
    by_cases e : k = p
    · subst e
      have t1 := cP_ti h (show k < nP r by omega) hC2 (by omega) h2 h3 h4 h5 h6 h7 h8 h9 h10 hg
      have t2 := nRd_lo h hM hC d (k + 1) (cP r mn k C) (B + 4158) (by omega) ok' (by omega) lo' q (f - (tk r k q).toNat) (by omega)
      omega
    · have s1 := lo' p g (by omega)
      have s2 := cP_le r mn k C p g
      exact nRd_ti h hM hC h2 h3 h4 h5 h6 h7 h8 h9 h10 d (k + 1) (cP r mn k C) (B + 4158) (by omega) (by omega) (by omega) ok' (by omega) lo' (by omega)
/-! how many are final -/
def cnt (P : Nat → Bool) : Nat → Nat
  | 0 => 0
  | n + 1 => cnt P n + (if P n then 1 else 0)
theorem cnt_le (P : Nat → Bool) : ∀ n, cnt P n ≤ n
  | 0 => Nat.le_refl _
  | n + 1 => by
    have := cnt_le P n
    show cnt P n + (if P n then 1 else 0) ≤ n + 1
    split <;> omega
theorem cnt_m {P Q : Nat → Bool} (h : ∀ v, P v = true → Q v = true) : ∀ n, cnt P n ≤ cnt Q n
  | 0 => Nat.le_refl _
  | n + 1 => by
    have := cnt_m h n
    show cnt P n + (if P n then 1 else 0) ≤ cnt Q n + (if Q n then 1 else 0)
    by_cases c : P n = true
    · rw [if_pos c, if_pos (h n c)]; omega
    · rw [if_neg c]; omega
theorem cnt_s {P Q : Nat → Bool} (h : ∀ v, P v = true → Q v = true) {v : Nat} (h1 : P v = false) (h2 : Q v = true) : ∀ n, v < n → cnt P n < cnt Q n
  | 0, hv => by omega
  | n + 1, hv => by
    show cnt P n + (if P n then 1 else 0) < cnt Q n + (if Q n then 1 else 0)
    by_cases e : v = n
    · subst e
      have := cnt_m h v
      rw [if_neg (by rw [h1]; decide), if_pos h2]
      omega
    · have := cnt_s h h1 h2 n (by omega)
      by_cases c : P n = true
      · rw [if_pos c, if_pos (h n c)]; omega
      · rw [if_neg c]; omega
theorem cnt_1 {P : Nat → Bool} {v : Nat} (h : P v = true) {n : Nat} (hv : v < n) : 1 ≤ cnt P n := by
  have := cnt_s (P := fun _ => false) (Q := P) (fun _ q => by simp at q) rfl h n hv
  omega
def fin' (M C : Nat → Nat → Int) (c : Nat) : Bool := decide (C (c / 41) (c % 41) = M (c / 41) (c % 41))
/-- all that is reached is final -/
def AF (r : Nat → Int32) (mn : Bool) (M : Nat → Nat → Int) (p0 x0 : Nat) (C : Nat → Nat → Int) : Prop := ∀ p x, Rea r mn M p0 x0 p x → C p x = M p x
theorem round_c {r : Nat → Int32} (h : ROK r) {mn : Bool} {M Q : Nat → Nat → Int} (hM : RG M) (hC : Clo r mn M Q) {p0 x0 : Nat} {C : Nat → Nat → Int} {B : Int} (hC2 : COK C B) (hB : B + 40000 ≤ 100000000) (hlo : ∀ q x, x ≤ 40 → M q x ≤ C q x) (h0 : C p0 x0 = M p0 x0) : AF r mn M p0 x0 C ∨ cnt (fin' M C) 369 < cnt (fin' M (nRd r mn (nP r) 0 C)) 369 := by
  obtain ⟨c1, c2, c3, c4, c5⟩ := nTP h
  by_cases ex : ∃ p g q f, p < nP r ∧ g ≤ f ∧ f ≤ nT r ∧ (g = f ∨ 0 < pm r p) ∧ q < nP r ∧ 0 < tk r p q ∧ tk r p q ≤ (f : Int) ∧ M p g < 1000000000 ∧ M q (f - (tk r p q).toNat) < 1000000000 ∧ M q (f - (tk r p q).toNat) = M p g + (if g = f then 0 else bc r mn p (f - g)) + lc r mn p q ∧ C p g = M p g ∧ C q (f - (tk r p q).toNat) ≠ M q (f - (tk r p q).toNat)
  · right
    obtain ⟨p, g, q, f, a1, a2, a3, a4, a5, a6, a7, a8, a9, a10, a11, a12⟩ := ex
    have ti := nRd_ti h hM hC a2 a3 a4 a5 a6 a7 a8 a9 a10 (nP r) 0 C B (by omega) (by omega) (by omega) hC2 (by omega) hlo a11
    have ei1 : (41 * q + (f - (tk r p q).toNat)) / 41 = q := by omega
    have ei2 : (41 * q + (f - (tk r p q).toNat)) % 41 = f - (tk r p q).toNat := by omega
    refine cnt_s (v := 41 * q + (f - (tk r p q).toNat)) ?_ ?_ ?_ 369 (by omega)
    · intro v hv
      unfold fin' at hv ⊢
      rw [decide_eq_true_eq] at hv ⊢
      have := nRd_lo h hM hC (nP r) 0 C B (by omega) hC2 (by omega) hlo (v / 41) (v % 41) (by omega)
      omega
    · unfold fin'
      rw [ei1, ei2]
      exact decide_eq_false a12
    · unfold fin'
      rw [ei1, ei2]
      exact decide_eq_true ti
  · left
    intro p x hr
    refine hr (fun p x => C p x = M p x) h0 ?_
    intro p g q f a1 a2 a3 a4 a5 a6 a7 a8 a9 a10 a11
    rcases Classical.em (C q (f - (tk r p q).toNat) = M q (f - (tk r p q).toNat)) with k | k
    · exact k
    · exact absurd ⟨p, g, q, f, a1, a2, a3, a4, a5, a6, a7, a8, a9, a10, a11, k⟩ ex
