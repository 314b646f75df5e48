/-! the net: models, both -/
def nT (r : Nat → Int32) : Nat := (rd r 0).toNat
def nP (r : Nat → Int32) : Nat := (rd r 5).toNat
def pm (r : Nat → Int32) (p : Nat) : Int := rd r (11 + 3 * p)
def tk (r : Nat → Int32) (p q : Nat) : Int := rd r (38 + (9 * p + q))
def bc (r : Nat → Int32) (mn : Bool) (p n : Nat) : Int := if mn then rd r 3 else (n : Int) * pm r p + rd r 2
def lc (r : Nat → Int32) (mn : Bool) (p q : Nat) : Int := if mn then rd r (119 + (9 * p + q)) else 0
theorem nTP {r : Nat → Int32} (h : ROK r) : 1 ≤ nT r ∧ nT r ≤ 40 ∧ nP r ≤ 9 ∧ ((nT r : Nat) : Int) = rd r 0 ∧ ((nP r : Nat) : Int) = rd r 5 := by
  obtain ⟨t0, t1, t2, t3, t4, t5, t8, t9⟩ := ROKb h
  unfold nT nP
  omega
theorem pm_b {r : Nat → Int32} (h : ROK r) {p : Nat} (hp : p < 9) : 0 ≤ pm r p ∧ pm r p ≤ 99 := (pumpB h hp).1
theorem tk_b {r : Nat → Int32} (h : ROK r) {p q : Nat} (hp : p < 9) (hq : q < 9) : 0 ≤ tk r p q ∧ tk r p q ≤ 40 := road_b h hp hq
theorem tk_pp {r : Nat → Int32} (h : ROK r) {p : Nat} (hp : p < 9) : tk r p p = 0 := (h.2.2.2.2.2.2.2.2.2.2.1 p p hp hp).2.2.2 (Or.inr rfl)
theorem bc_b {r : Nat → Int32} (h : ROK r) (mn : Bool) {p n : Nat} (hp : p < 9) (hn : n ≤ 40) : 0 ≤ bc r mn p n ∧ bc r mn p n ≤ 4059 := by
  obtain ⟨t0, t1, t2, t3, t4, t5, t8, t9⟩ := ROKb h
  have pb := pm_b h hp
  have m := mulg (show 0 ≤ (n : Int) by omega) (show (n : Int) ≤ 40 by omega) pb.1 pb.2
  unfold bc
  split <;> omega
theorem lc_b {r : Nat → Int32} (h : ROK r) (mn : Bool) {p q : Nat} (hp : p < 9) (hq : q < 9) : 0 ≤ lc r mn p q ∧ lc r mn p q ≤ 99 := by
  have := h.2.2.2.2.2.2.2.2.2.2.2.1 (9 * p + q) (by omega)
  have e : rd r (119 + (9 * p + q)) = (r (119 + (9 * p + q))).toInt := rfl
  unfold lc
  split <;> omega
def ei (N B : Nat → Nat → Int) (p f : Nat) : Int := if N p f < B p f then N p f else B p f
theorem ei_le (N B : Nat → Nat → Int) (p f : Nat) : ei N B p f ≤ N p f ∧ ei N B p f ≤ B p f ∧ (ei N B p f = N p f ∨ ei N B p f = B p f) := by
  unfold ei
  split <;> omega
def gB (r : Nat → Int32) (mn : Bool) (p f : Nat) (N B : Nat → Nat → Int) (p' f' : Nat) : Int := if p' = p ∧ 0 < pm r p ∧ N p f < 1000000000 ∧ f < f' ∧ f' ≤ nT r ∧ N p f + bc r mn p (f' - f) < B p' f' then N p f + bc r mn p (f' - f) else B p' f'
def gN (r : Nat → Int32) (mn : Bool) (p f : Nat) (N B : Nat → Nat → Int) (q x : Nat) : Int := if q < nP r ∧ 0 < tk r p q ∧ tk r p q ≤ (f : Int) ∧ x = f - (tk r p q).toNat ∧ ei N B p f < 1000000000 ∧ ei N B p f + lc r mn p q < N q x then ei N B p f + lc r mn p q else N q x
theorem gB_le (r : Nat → Int32) (mn : Bool) (p f : Nat) (N B : Nat → Nat → Int) (p' f' : Nat) : gB r mn p f N B p' f' ≤ B p' f' := by
  unfold gB
  split <;> omega
theorem gN_le (r : Nat → Int32) (mn : Bool) (p f : Nat) (N B : Nat → Nat → Int) (q x : Nat) : gN r mn p f N B q x ≤ N q x := by
  unfold gN
  split <;> omega
def RG (N : Nat → Nat → Int) : Prop := ∀ p f, 0 ≤ N p f ∧ N p f ≤ 1000000000
theorem gB_rg {r : Nat → Int32} (h : ROK r) (mn : Bool) {p f : Nat} (hp : p < 9) {N B : Nat → Nat → Int} (hN : RG N) (hB : RG B) : RG (gB r mn p f N B) := by
  intro p' f'
  have a := hN p f
  have b := hB p' f'
  obtain ⟨c1, c2, c3, c4, c5⟩ := nTP h
  unfold gB
  split
  · rename_i e
    have := bc_b h mn (n := f' - f) hp (by omega)
    omega
  · omega
theorem gN_rg {r : Nat → Int32} (h : ROK r) (mn : Bool) {p f : Nat} (hp : p < 9) {N B : Nat → Nat → Int} (hN : RG N) (hB : RG B) : RG (gN r mn p f N B) := by
  intro q x
  have a := hN p f
  have b := hB p f
  have c := hN q x
  obtain ⟨c1, c2, c3, c4, c5⟩ := nTP h
  unfold gN
  split
  · rename_i e
    have := lc_b h mn hp (show q < 9 by omega)
    have := ei_le N B p f
    omega
  · omega
/-- nothing more is to be made less -/
def Clo (r : Nat → Int32) (mn : Bool) (N B : Nat → Nat → Int) : Prop := ∀ p f, p < nP r → f ≤ nT r → (0 < pm r p → N p f < 1000000000 → ∀ f', f < f' → f' ≤ nT r → B p f' ≤ N p f + bc r mn p (f' - f)) ∧ (∀ q, q < nP r → 0 < tk r p q → tk r p q ≤ (f : Int) → ei N B p f < 1000000000 → N q (f - (tk r p q).toNat) ≤ ei N B p f + lc r mn p q)
def Ch (r : Nat → Int32) (mn : Bool) (N B N' B' : Nat → Nat → Int) : Prop := ∃ (n : Nat) (σ τ : Nat → Nat → Nat → Int), σ 0 = N ∧ τ 0 = B ∧ σ n = N' ∧ τ n = B' ∧ ∀ i, i < n → ∃ p f, p < nP r ∧ f ≤ nT r ∧ σ (i + 1) = gN r mn p f (σ i) (τ i) ∧ τ (i + 1) = gB r mn p f (σ i) (τ i)
theorem Ch_r (r : Nat → Int32) (mn : Bool) (N B : Nat → Nat → Int) : Ch r mn N B N B := ⟨0, fun _ => N, fun _ => B, rfl, rfl, rfl, rfl, fun i hi => by omega⟩
theorem Ch_s {r : Nat → Int32} {mn : Bool} {N B N' B' : Nat → Nat → Int} (h : Ch r mn N B N' B') {p f : Nat} (hp : p < nP r) (hf : f ≤ nT r) : Ch r mn N B (gN r mn p f N' B') (gB r mn p f N' B') := by
  obtain ⟨n, σ, τ, h1, h2, h3, h4, h5⟩ := h
  refine ⟨n + 1, fun i => if i ≤ n then σ i else gN r mn p f N' B', fun i => if i ≤ n then τ i else gB r mn p f N' B', ?_, ?_, ?_, ?_, ?_⟩
  · show (if 0 ≤ n then σ 0 else _) = _
    rw [if_pos (by omega), h1]
  · show (if 0 ≤ n then τ 0 else _) = _
    rw [if_pos (by omega), h2]
  · show (if n + 1 ≤ n then _ else _) = _
    rw [if_neg (by omega)]
  · show (if n + 1 ≤ n then _ else _) = _
    rw [if_neg (by omega)]
  · intro i hi
    show ∃ p_1 f_1, _ ∧ _ ∧ (if i + 1 ≤ n then σ (i + 1) else _) = gN r mn p_1 f_1 (if i ≤ n then σ i else _) (if i ≤ n then τ i else _) ∧ (if i + 1 ≤ n then τ (i + 1) else _) = gB r mn p_1 f_1 (if i ≤ n then σ i else _) (if i ≤ n then τ i else _)
    rw [if_pos (show i ≤ n by omega), if_pos (show i ≤ n by omega)]
    by_cases c : i + 1 ≤ n
    · rw [if_pos c, if_pos c]
      exact h5 i (by omega)
    · rw [if_neg c, if_neg c]
      have : i = n := by omega
      subst this
      rw [h3, h4]
      exact ⟨p, f, hp, hf, rfl, rfl⟩
/-- what is reached by roads that are tight -/
def Rea (r : Nat → Int32) (mn : Bool) (M : Nat → Nat → Int) (p0 x0 : Nat) (p x : Nat) : Prop := ∀ P : Nat → Nat → Prop, P p0 x0 → (∀ p g q f, p < nP r → g ≤ f → f ≤ nT r → (g = f ∨ 0 < pm r p) → q < nP r → 0 < tk r p q → tk r p q ≤ (f : Int) → M p g < 1000000000 → M q (f - (tk r p q).toNat) < 1000000000 → M q (f - (tk r p q).toNat) = M p g + (if g = f then 0 else bc r mn p (f - g)) + lc r mn p q → P p g → P q (f - (tk r p q).toNat)) → P p x
theorem Rea_s {r : Nat → Int32} {mn : Bool} {M : Nat → Nat → Int} {p0 x0 p g q f : Nat} (h : Rea r mn M p0 x0 p g) (h1 : p < nP r) (h2 : g ≤ f) (h3 : f ≤ nT r) (h4 : g = f ∨ 0 < pm r p) (h5 : q < nP r) (h6 : 0 < tk r p q) (h7 : tk r p q ≤ (f : Int)) (h8 : M p g < 1000000000) (h9 : M q (f - (tk r p q).toNat) < 1000000000) (h10 : M q (f - (tk r p q).toNat) = M p g + (if g = f then 0 else bc r mn p (f - g)) + lc r mn p q) : Rea r mn M p0 x0 q (f - (tk r p q).toNat) :=
  fun P a b => b p g q f h1 h2 h3 h4 h5 h6 h7 h8 h9 h10 (h P a b)
theorem mono_ch {r : Nat → Int32} {mn : Bool} {n : Nat} {σ τ : Nat → Nat → Nat → Int} (h5 : ∀ i, i < n → ∃ p f, p < nP r ∧ f ≤ nT r ∧ σ (i + 1) = gN r mn p f (σ i) (τ i) ∧ τ (i + 1) = gB r mn p f (σ i) (τ i)) : ∀ d i, i + d = n → (∀ p f, σ n p f ≤ σ i p f) ∧ (∀ p f, τ n p f ≤ τ i p f)
  | 0, i, h => by
    have : i = n := h
    subst this
    exact ⟨fun _ _ => Int.le_refl _, fun _ _ => Int.le_refl _⟩
  | d + 1, i, h => by
    obtain ⟨a, b⟩ := mono_ch h5 d (i + 1) (by omega)
    obtain ⟨p, f, -, -, e1, e2⟩ := h5 i (by omega)
    constructor
    · intro p' f'
      have := a p' f'
      rw [e1] at this
      have := gN_le r mn p f (σ i) (τ i) p' f'
      omega
    · intro p' f'
      have := b p' f'
      rw [e2] at this
      have := gB_le r mn p f (σ i) (τ i) p' f'
      omega
def I0 (p0 x0 p x : Nat) : Int := if p = p0 ∧ x = x0 then 0 else 1000000000
theorem reach {r : Nat → Int32} (h : ROK r) {mn : Bool} {p0 x0 : Nat} {M Q : Nat → Nat → Int} (hc : Ch r mn (I0 p0 x0) (fun _ _ => 1000000000) M Q) (hC : Clo r mn M Q) : (∀ p x, M p x < 1000000000 → Rea r mn M p0 x0 p x) ∧ (∀ p f, Q p f < 1000000000 → ∃ g, g < f ∧ f ≤ nT r ∧ 0 < pm r p ∧ p < nP r ∧ M p g < 1000000000 ∧ M p g + bc r mn p (f - g) = Q p f) := by
  obtain ⟨n, σ, τ, h1, h2, h3, h4, h5⟩ := hc
  obtain ⟨c1, c2, c3, c4, c5⟩ := nTP h
  have key : ∀ i, i ≤ n → (∀ p x, σ i p x = M p x → M p x < 1000000000 → Rea r mn M p0 x0 p x) ∧ (∀ p f, τ i p f = Q p f → Q p f < 1000000000 → ∃ g, g < f ∧ f ≤ nT r ∧ 0 < pm r p ∧ p < nP r ∧ Rea r mn M p0 x0 p g ∧ M p g < 1000000000 ∧ M p g + bc r mn p (f - g) = Q p f) := by
    intro i
    induction i with
    | zero =>
      intro _
      constructor
      · intro p x e hx
        rw [h1] at e
        unfold I0 at e
        by_cases c : p = p0 ∧ x = x0
        · obtain ⟨rfl, rfl⟩ := c
          exact fun P a _ => a
        · rw [if_neg c] at e
          omega
      · intro p f e hx
        rw [h2] at e
        have e' : (1000000000 : Int) = Q p f := e
        omega
    | succ i ih =>
      intro hi
      obtain ⟨ihA, ihB⟩ := ih (by omega)
      obtain ⟨mA, mB⟩ := mono_ch h5 (n - i) i (by omega)
      rw [h3] at mA
      rw [h4] at mB
      obtain ⟨p, f, hp, hf, e1, e2⟩ := h5 i (by omega)
      have cl := hC p f hp hf
      constructor
      · intro q x e hx
        rw [e1] at e
        unfold gN at e
        by_cases c : q < nP r ∧ 0 < tk r p q ∧ tk r p q ≤ (f : Int) ∧ x = f - (tk r p q).toNat ∧ ei (σ i) (τ i) p f < 1000000000 ∧ ei (σ i) (τ i) p f + lc r mn p q < σ i q x
        · rw [if_pos c] at e
          obtain ⟨q1, q2, q3, q4, q5, q6⟩ := c
          subst q4
          have ei1 := ei_le (σ i) (τ i) p f
          have ei2 := ei_le M Q p f
          have a1 := mA p f
          have a2 := mB p f
          have elt : ei M Q p f ≤ ei (σ i) (τ i) p f := by
            rcases ei1.2.2 with k | k <;> omega
          have cc := cl.2 q q1 q2 q3 (by omega)
          rcases ei1.2.2 with k | k
          · have eN : σ i p f = M p f := by omega
            exact Rea_s (ihA p f eN (by omega)) hp (Nat.le_refl f) hf (Or.inl rfl) q1 q2 q3 (by omega) hx (by rw [if_pos rfl]; omega)
          · have eB : τ i p f = Q p f := by omega
            obtain ⟨g, g1, g2, g3, g4, g5, g6, g7⟩ := ihB p f eB (by omega)
            exact Rea_s g5 hp (by omega) hf (Or.inr g3) q1 q2 q3 g6 hx (by rw [if_neg (by omega)]; omega)
        · rw [if_neg c] at e
          exact ihA q x e hx
      · intro p' f' e hx
        rw [e2] at e
        unfold gB at e
        by_cases c : p' = p ∧ 0 < pm r p ∧ σ i p f < 1000000000 ∧ f < f' ∧ f' ≤ nT r ∧ σ i p f + bc r mn p (f' - f) < τ i p' f'
        · rw [if_pos c] at e
          obtain ⟨q1, q2, q3, q4, q5, q6⟩ := c
          subst q1
          have a1 := mA p' f
          have cc := cl.1 q2 (by omega) f' q4 q5
          have eN : σ i p' f = M p' f := by omega
          exact ⟨f, q4, q5, q2, hp, ihA p' f eN (by omega), by omega, by omega⟩
        · rw [if_neg c] at e
          exact ihB p' f' e hx
  refine ⟨fun p x hx => (key n (Nat.le_refl n)).1 p x (by rw [h3]) hx, fun p f hf => ?_⟩
  obtain ⟨g, g1, g2, g3, g4, -, g6, g7⟩ := (key n (Nat.le_refl n)).2 p f (by rw [h4]) hf
  exact ⟨g, g1, g2, g3, g4, g6, g7⟩
