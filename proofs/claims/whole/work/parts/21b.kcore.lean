/-! worlds as lists of kinds: what a call takes and gives back, kind by kind -/
def sttG {α : Type} (w : List α) (L : List (Nat × α)) : List α := L.foldl (fun w x => w.set x.1 x.2) w
theorem sttG_at {α : Type} : ∀ (is : List Nat) (w1 ws0 : List α) (k : Nat) (q : α), (sttG ws0 (is.zip w1))[k]? = some q → (∃ j : Nat, is[j]? = some k ∧ w1[j]? = some q) ∨ (ws0[k]? = some q ∧ ∀ j : Nat, j < w1.length → is[j]? ≠ some k)
  | [], w1, ws0, k, q, h => by
    refine Or.inr ⟨?_, fun j _ h9 => by simp at h9⟩
    simpa [sttG] using h
  | i :: is, [], ws0, k, q, h => by
    refine Or.inr ⟨?_, fun j hj _ => absurd hj (Nat.not_lt_zero j)⟩
    simpa [sttG] using h
  | i :: is, x :: w1, ws0, k, q, h => by
    have h2 : (sttG (ws0.set i x) (is.zip w1))[k]? = some q := h
    rcases sttG_at is w1 (ws0.set i x) k q h2 with ⟨j, a, b⟩ | ⟨a, b⟩
    · exact Or.inl ⟨j + 1, by simpa using a, by simpa using b⟩
    · by_cases e : i = k
      · subst e
        have hl : i < ws0.length := by
          have := (List.getElem?_eq_some_iff.mp a).1
          simpa using this
        rw [List.getElem?_set_self hl] at a
        exact Or.inl ⟨0, rfl, by simpa using a⟩
      · rw [List.getElem?_set_ne e] at a
        refine Or.inr ⟨a, fun j hj h9 => ?_⟩
        cases j with
        | zero => simp at h9; exact e h9
        | succ j => exact b j (by simpa using hj) (by simpa using h9)
theorem selG {α : Type} {cs cc : List α} {is : List Nat} (hC : is.map (fun i => cs[i]?) = cc.map some) {j : Nat} {a : α} (h : cc[j]? = some a) : ∃ i, is[j]? = some i ∧ cs[i]? = some a := by
  have h1 : (is.map (fun i => cs[i]?))[j]? = some (some a) := by rw [hC, List.getElem?_map, h]; rfl
  rw [List.getElem?_map] at h1
  cases hi : is[j]? with
  | none => rw [hi] at h1; cases h1
  | some i => rw [hi] at h1; exact ⟨i, rfl, Option.some.inj h1⟩
theorem vP_mem {D : va_G} {cl : List vw_C} {ws : va_W} {H : Heap} (h : va_P D cl ws H) {q : Nat × va_E} (hq : q ∈ ws) : va_at D cl q H := by
  obtain ⟨k, hk⟩ := List.getElem?_of_mem hq
  exact h k q hk
theorem vP_of {D : va_G} {cl : List vw_C} {ws : va_W} {H : Heap} (h : ∀ q ∈ ws, va_at D cl q H) : va_P D cl ws H := fun k q hk => h q (List.mem_of_getElem? hk)
def va_DL (A : Nat → Prop) (cs : List va_W) : Prop := (∀ (i j : Nat) (a b : va_W) (x y : Nat × va_E), cs[i]? = some a → cs[j]? = some b → x ∈ a → y ∈ b → x.1 = y.1 → i = j) ∧ ∀ a ∈ cs, va_D A a
theorem vD_left {A : Nat → Prop} {a b : va_W} (h : va_D A (a ++ b)) : va_D A a := by
  refine ⟨fun i j p q hi hj e => ?_, fun k q hk => ?_⟩
  · exact h.1 i j p q (rwl hi) (rwl hj) e
  · exact h.2 k q (rwl hk)
theorem vD_right {A : Nat → Prop} {a b : va_W} (h : va_D A (a ++ b)) : va_D A b := by
  refine ⟨fun i j p q hi hj e => ?_, fun k q hk => ?_⟩
  · have := h.1 (a.length + i) (a.length + j) p q (rwr rfl hi) (rwr rfl hj) e
    omega
  · exact h.2 (a.length + k) q (rwr rfl hk)
theorem vD_cross {A : Nat → Prop} {a b : va_W} (h : va_D A (a ++ b)) {x y : Nat × va_E} (hx : x ∈ a) (hy : y ∈ b) : x.1 ≠ y.1 := by
  intro e
  obtain ⟨i, hi⟩ := List.getElem?_of_mem hx
  obtain ⟨j, hj⟩ := List.getElem?_of_mem hy
  have h1 := h.1 i (a.length + j) x y (rwl hi) (rwr rfl hj) e
  have h2 := rlt hi
  omega
theorem DL_of {A : Nat → Prop} : ∀ {cs : List va_W}, va_D A cs.flatten → va_DL A cs
  | [], _ => ⟨fun i j a b x y h => by simp at h, fun a h => by simp at h⟩
  | c :: cs, h => by
    have h0 : va_D A (c ++ cs.flatten) := by rw [← List.flatten_cons]; exact h
    obtain ⟨r1, r2⟩ := DL_of (vD_right h0)
    have mf : ∀ {j : Nat} {b : va_W} {y : Nat × va_E}, cs[j]? = some b → y ∈ b → y ∈ cs.flatten := fun hj hy => List.mem_flatten.mpr ⟨_, List.mem_of_getElem? hj, hy⟩
    refine ⟨fun i j a b x y hi hj hx hy e => ?_, fun a ha => ?_⟩
    · cases i with
      | zero =>
        cases j with
        | zero => rfl
        | succ j =>
          have e1 : c = a := by simpa using hi
          subst e1
          exact absurd e (vD_cross h0 hx (mf (by simpa using hj) hy))
      | succ i =>
        cases j with
        | zero =>
          have e1 : c = b := by simpa using hj
          subst e1
          exact absurd e.symm (vD_cross h0 hy (mf (by simpa using hi) hx))
        | succ j => exact congrArg (· + 1) (r1 i j a b x y (by simpa using hi) (by simpa using hj) hx hy e)
    · rcases List.mem_cons.mp ha with rfl | ha
      · exact vD_left h0
      · exact r2 a ha
theorem DL_to {A : Nat → Prop} : ∀ {cs : List va_W}, va_DL A cs → va_D A cs.flatten
  | [], _ => ⟨fun i j p q h => by simp at h, fun k q h => by simp at h⟩
  | c :: cs, h => by
    have h2 : va_D A cs.flatten := DL_to ⟨fun i j a b x y hi hj hx hy e => by
      have := h.1 (i + 1) (j + 1) a b x y (by simpa using hi) (by simpa using hj) hx hy e
      omega, fun a ha => h.2 a (List.mem_cons_of_mem _ ha)⟩
    rw [List.flatten_cons]
    refine va_D.app (h.2 c List.mem_cons_self) h2 (fun i j p q hi hj e => ?_)
    obtain ⟨b, hb, hq⟩ := List.mem_flatten.mp (List.mem_of_getElem? hj)
    obtain ⟨k, hk⟩ := List.getElem?_of_mem hb
    have := h.1 0 (k + 1) c b p q rfl (by simpa using hk) (List.mem_of_getElem? hi) hq e
    omega
theorem DL_sel {A : Nat → Prop} {cs cc : List va_W} {is : List Nat} (h : va_DL A cs) (hC : is.map (fun i => cs[i]?) = cc.map some) (hn : va_nd is = true) : va_DL A cc := by
  refine ⟨fun i j a b x y hi hj hx hy e => ?_, fun a ha => ?_⟩
  · obtain ⟨i', h1, h2⟩ := selG hC hi
    obtain ⟨j', h3, h4⟩ := selG hC hj
    have := h.1 i' j' a b x y h2 h4 hx hy e
    subst this
    exact va_nd_inj is hn i j i' h1 h3
  · obtain ⟨k, hk⟩ := List.getElem?_of_mem ha
    obtain ⟨i', -, h2⟩ := selG hC hk
    exact h.2 a (List.mem_of_getElem? h2)
theorem va_PL {D : va_G} {cl : List vw_C} {cs cc : List va_W} {ws0 wc : va_W} {H : Heap} (hP : va_P D cl ws0 H) (h0 : cs.flatten = ws0) (is : List Nat) (hC : is.map (fun i => cs[i]?) = cc.map some) (hc : cc.flatten = wc) : va_P D cl wc H := by
  subst h0; subst hc
  refine vP_of (fun q hq => ?_)
  obtain ⟨b, hb, hq⟩ := List.mem_flatten.mp hq
  obtain ⟨k, hk⟩ := List.getElem?_of_mem hb
  obtain ⟨i', -, h2⟩ := selG hC hk
  exact vP_mem hP (List.mem_flatten.mpr ⟨b, List.mem_of_getElem? h2, hq⟩)
theorem rk_join {D : va_G} {cl : List vw_C} {A : Nat → Prop} {cs cc new : List va_W} {is : List Nat} {H H1 : Heap} (hP : va_P D cl cs.flatten H) (hD : va_DL A cs) (hC : is.map (fun i => cs[i]?) = cc.map some) (hlen : new.length = cc.length) (hk : ∀ q : Nat, q < H.size → ¬ va_A cc.flatten H.size q → H1[q]? = H[q]?) (hF : ∀ q, va_A cc.flatten H.size q → A q) (hP1 : va_P D cl new.flatten H1) (hD1 : va_D (va_A cc.flatten H.size) new.flatten) : va_P D cl (sttG cs (is.zip new)).flatten H1 ∧ va_D A (sttG cs (is.zip new)).flatten := by
  have hDL1 := DL_of hD1
  have mf : ∀ {cs : List va_W} {j : Nat} {b : va_W} {y : Nat × va_E}, cs[j]? = some b → y ∈ b → y ∈ cs.flatten := fun hj hy => List.mem_flatten.mpr ⟨_, List.mem_of_getElem? hj, hy⟩
  -- an old cell that the callee did not have
  have old : ∀ (k : Nat) (w : va_W) (x : Nat × va_E), cs[k]? = some w → (∀ j : Nat, j < new.length → is[j]? ≠ some k) → x ∈ w → x.1 < H.size ∧ ¬ va_A cc.flatten H.size x.1 := by
    intro k w x hk9 hno hx
    have hl := (vP_mem hP (mf hk9 hx)).lt
    refine ⟨hl, fun z => ?_⟩
    rcases z with ⟨j9, e9, z⟩ | z
    · obtain ⟨b, hb, hq⟩ := List.mem_flatten.mp (List.mem_of_getElem? z)
      obtain ⟨j, hj⟩ := List.getElem?_of_mem hb
      obtain ⟨i', h1, h2⟩ := selG hC hj
      have := hD.1 k i' w b x (x.1, e9) hk9 h2 hx hq rfl
      subst this
      exact hno j (by rw [hlen]; exact (List.getElem?_eq_some_iff.mp hj).1) h1
    · omega
  refine ⟨vP_of (fun q hq => ?_), DL_to ⟨fun i j a b x y hi hj hx hy e => ?_, fun a ha => ?_⟩⟩
  · obtain ⟨w, hw, hq⟩ := List.mem_flatten.mp hq
    obtain ⟨k, hk9⟩ := List.getElem?_of_mem hw
    rcases sttG_at is new cs k w hk9 with ⟨j, h1, h2⟩ | ⟨h1, h2⟩
    · exact vP_mem hP1 (mf h2 hq)
    · obtain ⟨g1, g2⟩ := old k w q h1 h2 hq
      exact (vP_mem hP (mf h1 hq)).kept (hk q.1 g1 g2)
  · have inA : ∀ {j : Nat} {b : va_W} {y : Nat × va_E}, new[j]? = some b → y ∈ b → va_A cc.flatten H.size y.1 := by
      intro j b y h1 h2
      obtain ⟨k, hk9⟩ := List.getElem?_of_mem h2
      exact (hDL1.2 b (List.mem_of_getElem? h1)).2 k y hk9
    rcases sttG_at is new cs i a hi with ⟨k, h1, h2⟩ | ⟨h1, h2⟩ <;> rcases sttG_at is new cs j b hj with ⟨k', h3, h4⟩ | ⟨h3, h4⟩
    · have := hDL1.1 k k' a b x y h2 h4 hx hy e
      subst this
      exact Option.some.inj (h1.symm.trans h3)
    · exact absurd (by rw [← e]; exact inA h2 hx) (old j b y h3 h4 hy).2
    · exact absurd (by rw [e]; exact inA h4 hy) (old i a x h1 h2 hx).2
    · exact hD.1 i j a b x y h1 h3 hx hy e
  · obtain ⟨k, hk9⟩ := List.getElem?_of_mem ha
    rcases sttG_at is new cs k a hk9 with ⟨j, h1, h2⟩ | ⟨h1, h2⟩
    · exact (hDL1.2 a (List.mem_of_getElem? h2)).weaken (fun _ q _ h => hF q.1 h)
    · exact hD.2 a (List.mem_of_getElem? h1)
theorem fl1 (a : va_W) : [a].flatten = a := by simp
theorem fl2 (a b : va_W) : [a, b].flatten = a ++ b := by simp
theorem fl3 (a b c : va_W) : [a, b, c].flatten = a ++ b ++ c := by simp
theorem fl4 (a b c d : va_W) : [a, b, c, d].flatten = a ++ b ++ c ++ d := by simp
theorem fl5 (a b c d e : va_W) : [a, b, c, d, e].flatten = a ++ b ++ c ++ d ++ e := by simp
theorem fl6 (a b c d e f : va_W) : [a, b, c, d, e, f].flatten = a ++ b ++ c ++ d ++ e ++ f := by simp
theorem fl7 (a b c d e f g : va_W) : [a, b, c, d, e, f, g].flatten = a ++ b ++ c ++ d ++ e ++ f ++ g := by simp
theorem fl8 (a b c d e f g h : va_W) : [a, b, c, d, e, f, g, h].flatten = a ++ b ++ c ++ d ++ e ++ f ++ g ++ h := by simp
theorem fl9 (a b c d e f g h i : va_W) : [a, b, c, d, e, f, g, h, i].flatten = a ++ b ++ c ++ d ++ e ++ f ++ g ++ h ++ i := by simp
