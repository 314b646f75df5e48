/-! the net: the reference lays it -/
def sm (X : Nat → Nat → Int) : Nat → Int
  | 0 => 0
  | n + 1 => sm X n + X (n / 41) (n % 41)
theorem sm_0 {X : Nat → Nat → Int} (h : RG X) : ∀ n : Nat, 0 ≤ sm X n ∧ sm X n ≤ 1000000000 * n
  | 0 => ⟨Int.le_refl _, Int.le_refl _⟩
  | n + 1 => by
    have := sm_0 h n
    have := h (n / 41) (n % 41)
    show 0 ≤ sm X n + _ ∧ sm X n + _ ≤ _
    omega
theorem sm_m {X Y : Nat → Nat → Int} (h : ∀ p f, Y p f ≤ X p f) : ∀ n : Nat, sm Y n ≤ sm X n
  | 0 => Int.le_refl _
  | n + 1 => by
    have := sm_m h n
    have := h (n / 41) (n % 41)
    show sm Y n + _ ≤ sm X n + _
    omega
theorem sm_s {X Y : Nat → Nat → Int} (h : ∀ p f, Y p f ≤ X p f) {p f : Nat} (hf : f < 41) (hs : Y p f < X p f) : ∀ n : Nat, 41 * p + f < n → sm Y n < sm X n
  | 0, hn => by omega
  | n + 1, hn => by
    show sm Y n + _ < sm X n + _
    by_cases e : 41 * p + f = n
    · have e1 : n / 41 = p := by omega
      have e2 : n % 41 = f := by omega
      have := sm_m h n
      rw [e1, e2]
      omega
    · have := sm_s h hf hs n (by omega)
      have := h (n / 41) (n % 41)
      omega
theorem FL2_t {a b : Bool} {N B N1 B1 N2 B2 : Nat → Nat → Int} (h1 : FL2 a N B N1 B1) (h2 : FL2 b N1 B1 N2 B2) (m1 : ∀ p f, N1 p f ≤ N p f) (m2 : ∀ p f, B1 p f ≤ B p f) (m3 : ∀ p f, N2 p f ≤ N1 p f) (m4 : ∀ p f, B2 p f ≤ B1 p f) : FL2 (a || b) N B N2 B2 := by
  constructor
  · intro h
    rw [Bool.or_eq_false_iff] at h
    obtain ⟨x1, x2⟩ := h1.1 h.1
    obtain ⟨y1, y2⟩ := h2.1 h.2
    exact ⟨fun p f => by rw [y1, x1], fun p f => by rw [y2, x2]⟩
  · intro h
    rw [Bool.or_eq_true] at h
    rcases h with h | h
    · rcases h1.2 h with ⟨p, f, e1, e2, e3⟩ | ⟨p, f, e1, e2, e3⟩
      · have := m3 p f
        exact Or.inl ⟨p, f, e1, e2, by omega⟩
      · have := m4 p f
        exact Or.inr ⟨p, f, e1, e2, by omega⟩
    · rcases h2.2 h with ⟨p, f, e1, e2, e3⟩ | ⟨p, f, e1, e2, e3⟩
      · have := m1 p f
        exact Or.inl ⟨p, f, e1, e2, by omega⟩
      · have := m2 p f
        exact Or.inr ⟨p, f, e1, e2, by omega⟩
/-- within a round: what stands, what was done -/
def RS (r : Nat → Int32) (mn : Bool) (p0 x0 : Nat) (N0 B0 : Nat → Nat → Int) (fl : Bool) (p f : Nat) (N B : Nat → Nat → Int) : Prop := FL2 fl N0 B0 N B ∧ RG N ∧ RG B ∧ Ch r mn (I0 p0 x0) (fun _ _ => 1000000000) N B ∧ (∀ q x, N q x ≤ N0 q x) ∧ (∀ q x, B q x ≤ B0 q x) ∧ (fl = false → ∀ p' f', (p' < p ∨ (p' = p ∧ f' < f)) → f' ≤ nT r → gN r mn p' f' N0 B0 = N0 ∧ gB r mn p' f' N0 B0 = B0)
theorem ext2 {X Y : Nat → Nat → Int} (h : ∀ p f, X p f = Y p f) : X = Y := by
  funext p f
  exact h p f
theorem RS_s {r : Nat → Int32} (h : ROK r) {mn : Bool} {p0 x0 : Nat} {N0 B0 : Nat → Nat → Int} {fl fl' : Bool} {p f : Nat} {N B : Nat → Nat → Int} (H : RS r mn p0 x0 N0 B0 fl p f N B) (hp : p < nP r) (hf : f ≤ nT r) (hfl : FL2 fl' N B (gN r mn p f N B) (gB r mn p f N B)) : RS r mn p0 x0 N0 B0 (fl || fl') p (f + 1) (gN r mn p f N B) (gB r mn p f N B) := by
  obtain ⟨c1, c2, c3, c4, c5⟩ := nTP h
  obtain ⟨h1, h2, h3, h4, h5, h6, h7⟩ := H
  refine ⟨FL2_t h1 hfl h5 h6 (gN_le r mn p f N B) (gB_le r mn p f N B), gN_rg h mn (by omega) h2 h3, gB_rg h mn (by omega) h2 h3, Ch_s h4 hp hf, fun q x => Int.le_trans (gN_le r mn p f N B q x) (h5 q x), fun q x => Int.le_trans (gB_le r mn p f N B q x) (h6 q x), ?_⟩
  intro q p' f' hd hf'
  rw [Bool.or_eq_false_iff] at q
  by_cases e : p' = p ∧ f' = f
  · obtain ⟨rfl, rfl⟩ := e
    have eN : N = N0 := ext2 (h1.1 q.1).1
    have eB : B = B0 := ext2 (h1.1 q.1).2
    rw [eN, eB] at hfl
    exact ⟨ext2 (hfl.1 q.2).1, ext2 (hfl.1 q.2).2⟩
  · exact h7 q.1 p' f' (by omega) hf'
theorem l77 {F : Nat} (hF : 100 ≤ F) {r : Nat → Int32} (h : ROK r) {mp : Int32} {mn : Bool} (hm : mp = 0 ↔ mn = false) {p0 x0 : Nat} {N0 B0 : Nat → Nat → Int} {p : Nat} (hp : p < nP r) (k64 : Int32 → Int32 → MS → Option MS) : ∀ (d f n : Nat) (fl : Bool) (s : MS) (N B : Nat → Nat → Int), f + d = nT r + 1 → d < n → s.2.2.1 15 = r → rep s N B → RS r mn p0 x0 N0 B0 fl p f N B →
    ∃ fl' s' N' B', f_X11_layNet_77 F mp k64 n (Int32.ofInt (fI fl)) (Int32.ofInt (p : Int)) (Int32.ofInt (f : Int)) s = k64 (Int32.ofInt (fI fl')) (Int32.ofInt ((p : Int) + 1)) s' ∧ rep s' N' B' ∧ RS r mn p0 x0 N0 B0 fl' (p + 1) 0 N' B' ∧ KP s s' := by
  obtain ⟨c1, c2, c3, c4, c5⟩ := nTP h
  intro d
  induction d with
  | zero =>
    intro f n fl s N B hf hn hr hs H
    cases n with
    | zero => omega
    | succ n =>
      have r0 : s.2.2.1 15 0 = Int32.ofInt (rd r 0) := by rw [hr]; exact rd_e r 0
      refine ⟨fl, s, N, B, ?_, hs, ⟨H.1, H.2.1, H.2.2.1, H.2.2.2.1, H.2.2.2.2.1, H.2.2.2.2.2.1, fun q p' f' hd hf' => H.2.2.2.2.2.2 q p' f' (by omega) hf'⟩, KP_r s⟩
      rw [f_X11_layNet_77]
      simp (disch := omega) only [z_0, z_1, z_2, z_3, z_4, z_5, z_6, z_7, z_8, z_9, z_10, z_11, z_12, z_14, z_18, z_20, z_22, z_24, z_32, z_38, z_40, z_41, z_44, z_48, z_49, z_57, z_59, z_60, z_63, z_65, z_74, z_75, z_81, z_97, z_99, z_104, z_115, z_119, z_122, z_200, z_209, z_210, z_219, z_228, z_255, z_300, z_369, z_999, z_65537, z_268435456, z_1000000000, n_nat, n_add, n_sub, n_mul, n_neg, n_lt, n_le, n_eq, n_ix, n_gd, n_nz, lz_t, bd_some, tn, Int.reduceToNat, tn_1, if_pos, if_neg, if_true, if_false, r0, f_X11_layNet_115]
  | succ d ih =>
    intro f n fl s N B hf hn hr hs H
    cases n with
    | zero => omega
    | succ n =>
      have r0 : s.2.2.1 15 0 = Int32.ofInt (rd r 0) := by rw [hr]; exact rd_e r 0
      obtain ⟨fl1, s1, y1, y2, y3, y4⟩ := goes_e (F := F) hF h hm hp (f := f) (by omega) H.2.1 H.2.2.1 s hr hs
      obtain ⟨fl', s', N', B', z1, z2, z3, z4⟩ := ih (f + 1) n (fl || fl1) s1 _ _ (by omega) (by omega) ((y4.2 15 (by omega)).trans hr) y2 (RS_s h H hp (by omega) y3)
      refine ⟨fl', s', N', B', ?_, z2, z3, KP_t y4 z4⟩
      rw [f_X11_layNet_77, ← z1]
      have ef : (f : Int) + 1 = ((f + 1 : Nat) : Int) := by omega
      cases fl with
      | false =>
        cases fl1 with
        | false => simp (disch := omega) only [z_0, z_1, z_2, z_3, z_4, z_5, z_6, z_7, z_8, z_9, z_10, z_11, z_12, z_14, z_18, z_20, z_22, z_24, z_32, z_38, z_40, z_41, z_44, z_48, z_49, z_57, z_59, z_60, z_63, z_65, z_74, z_75, z_81, z_97, z_99, z_104, z_115, z_119, z_122, z_200, z_209, z_210, z_219, z_228, z_255, z_300, z_369, z_999, z_65537, z_268435456, z_1000000000, n_nat, n_add, n_sub, n_mul, n_neg, n_lt, n_le, n_eq, n_ix, n_gd, n_nz, lz_t, bd_some, tn, Int.reduceToNat, tn_1, if_pos, if_neg, if_true, if_false, r0, y1, fI, f_X11_layNet_108, f_X11_layNet_103, Bool.false_eq_true, Bool.or_false, ef]
        | true => simp (disch := omega) only [z_0, z_1, z_2, z_3, z_4, z_5, z_6, z_7, z_8, z_9, z_10, z_11, z_12, z_14, z_18, z_20, z_22, z_24, z_32, z_38, z_40, z_41, z_44, z_48, z_49, z_57, z_59, z_60, z_63, z_65, z_74, z_75, z_81, z_97, z_99, z_104, z_115, z_119, z_122, z_200, z_209, z_210, z_219, z_228, z_255, z_300, z_369, z_999, z_65537, z_268435456, z_1000000000, n_nat, n_add, n_sub, n_mul, n_neg, n_lt, n_le, n_eq, n_ix, n_gd, n_nz, lz_t, bd_some, tn, Int.reduceToNat, tn_1, if_pos, if_neg, if_true, if_false, r0, y1, fI, f_X11_layNet_108, f_X11_layNet_103, Bool.false_eq_true, Bool.or_true, ef]
      | true =>
        cases fl1 with
        | false => simp (disch := omega) only [z_0, z_1, z_2, z_3, z_4, z_5, z_6, z_7, z_8, z_9, z_10, z_11, z_12, z_14, z_18, z_20, z_22, z_24, z_32, z_38, z_40, z_41, z_44, z_48, z_49, z_57, z_59, z_60, z_63, z_65, z_74, z_75, z_81, z_97, z_99, z_104, z_115, z_119, z_122, z_200, z_209, z_210, z_219, z_228, z_255, z_300, z_369, z_999, z_65537, z_268435456, z_1000000000, n_nat, n_add, n_sub, n_mul, n_neg, n_lt, n_le, n_eq, n_ix, n_gd, n_nz, lz_t, bd_some, tn, Int.reduceToNat, tn_1, if_pos, if_neg, if_true, if_false, r0, y1, fI, f_X11_layNet_108, f_X11_layNet_103, Bool.false_eq_true, Bool.or_false, ef]
        | true => simp (disch := omega) only [z_0, z_1, z_2, z_3, z_4, z_5, z_6, z_7, z_8, z_9, z_10, z_11, z_12, z_14, z_18, z_20, z_22, z_24, z_32, z_38, z_40, z_41, z_44, z_48, z_49, z_57, z_59, z_60, z_63, z_65, z_74, z_75, z_81, z_97, z_99, z_104, z_115, z_119, z_122, z_200, z_209, z_210, z_219, z_228, z_255, z_300, z_369, z_999, z_65537, z_268435456, z_1000000000, n_nat, n_add, n_sub, n_mul, n_neg, n_lt, n_le, n_eq, n_ix, n_gd, n_nz, lz_t, bd_some, tn, Int.reduceToNat, tn_1, if_pos, if_neg, if_true, if_false, r0, y1, fI, f_X11_layNet_108, f_X11_layNet_103, Bool.false_eq_true, Bool.or_true, ef]
theorem l64 {F : Nat} (hF : 100 ≤ F) {r : Nat → Int32} (h : ROK r) {mp : Int32} {mn : Bool} (hm : mp = 0 ↔ mn = false) {p0 x0 : Nat} {N0 B0 : Nat → Nat → Int} (k56 : Int32 → MS → Option MS) : ∀ (d p n : Nat) (fl : Bool) (s : MS) (N B : Nat → Nat → Int), p + d = nP r → d < n → s.2.2.1 15 = r → rep s N B → RS r mn p0 x0 N0 B0 fl p 0 N B →
    ∃ fl' s' N' B', f_X11_layNet_64 F mp k56 n (Int32.ofInt (fI fl)) (Int32.ofInt (p : Int)) s = k56 (Int32.ofInt (fI fl')) s' ∧ rep s' N' B' ∧ RS r mn p0 x0 N0 B0 fl' (nP r) 0 N' B' ∧ KP s s' := by
  obtain ⟨c1, c2, c3, c4, c5⟩ := nTP h
  intro d
  induction d with
  | zero =>
    intro p n fl s N B hp hn hr hs H
    cases n with
    | zero => omega
    | succ n =>
      have r5 : s.2.2.1 15 5 = Int32.ofInt (rd r 5) := by rw [hr]; exact rd_e r 5
      have : p = nP r := hp
      subst this
      refine ⟨fl, s, N, B, ?_, hs, H, KP_r s⟩
      rw [f_X11_layNet_64]
      simp (disch := omega) only [z_0, z_1, z_2, z_3, z_4, z_5, z_6, z_7, z_8, z_9, z_10, z_11, z_12, z_14, z_18, z_20, z_22, z_24, z_32, z_38, z_40, z_41, z_44, z_48, z_49, z_57, z_59, z_60, z_63, z_65, z_74, z_75, z_81, z_97, z_99, z_104, z_115, z_119, z_122, z_200, z_209, z_210, z_219, z_228, z_255, z_300, z_369, z_999, z_65537, z_268435456, z_1000000000, n_nat, n_add, n_sub, n_mul, n_neg, n_lt, n_le, n_eq, n_ix, n_gd, n_nz, lz_t, bd_some, tn, Int.reduceToNat, tn_1, if_pos, if_neg, if_true, if_false, r5, f_X11_layNet_121]
  | succ d ih =>
    intro p n fl s N B hp hn hr hs H
    cases n with
    | zero => omega
    | succ n =>
      have r5 : s.2.2.1 15 5 = Int32.ofInt (rd r 5) := by rw [hr]; exact rd_e r 5
      obtain ⟨fl1, s1, N1, B1, y1, y2, y3, y4⟩ := l77 (F := F) hF h hm (p := p) (by omega) (f_X11_layNet_64 F mp k56 n) (nT r + 1) 0 F fl s N B (by omega) (by omega) hr hs H
      obtain ⟨fl', s', N', B', z1, z2, z3, z4⟩ := ih (p + 1) n fl1 s1 N1 B1 (by omega) (by omega) ((y4.2 15 (by omega)).trans hr) y2 y3
      refine ⟨fl', s', N', B', ?_, z2, z3, KP_t y4 z4⟩
      have y1' : f_X11_layNet_77 F mp (f_X11_layNet_64 F mp k56 n) F (Int32.ofInt (fI fl)) (Int32.ofInt (p : Int)) (Int32.ofInt 0) s = _ := y1
      rw [f_X11_layNet_64, ← z1]
      simp (disch := omega) only [z_0, z_1, z_2, z_3, z_4, z_5, z_6, z_7, z_8, z_9, z_10, z_11, z_12, z_14, z_18, z_20, z_22, z_24, z_32, z_38, z_40, z_41, z_44, z_48, z_49, z_57, z_59, z_60, z_63, z_65, z_74, z_75, z_81, z_97, z_99, z_104, z_115, z_119, z_122, z_200, z_209, z_210, z_219, z_228, z_255, z_300, z_369, z_999, z_65537, z_268435456, z_1000000000, n_nat, n_add, n_sub, n_mul, n_neg, n_lt, n_le, n_eq, n_ix, n_gd, n_nz, lz_t, bd_some, tn, Int.reduceToNat, tn_1, if_pos, if_neg, if_true, if_false, r5, y1']
      rfl
theorem Clo_of {r : Nat → Int32} {mn : Bool} {N B : Nat → Nat → Int} (h : ∀ p f, p < nP r → f ≤ nT r → gN r mn p f N B = N ∧ gB r mn p f N B = B) : Clo r mn N B := by
  intro p f hp hf
  obtain ⟨e1, e2⟩ := h p f hp hf
  constructor
  · intro hpm hN f' h1 h2
    rcases Int.lt_or_le (N p f + bc r mn p (f' - f)) (B p f') with k | k
    · have := congrFun (congrFun e2 p) f'
      unfold gB at this
      rw [if_pos ⟨rfl, hpm, hN, h1, h2, k⟩] at this
      omega
    · exact k
  · intro q hq h1 h2 h3
    rcases Int.lt_or_le (ei N B p f + lc r mn p q) (N q (f - (tk r p q).toNat)) with k | k
    · have := congrFun (congrFun e1 q) (f - (tk r p q).toNat)
      unfold gN at this
      rw [if_pos ⟨hq, h1, h2, rfl, h3, k⟩] at this
      omega
    · exact k
theorem l56 {F : Nat} (hF : 100 ≤ F) {r : Nat → Int32} (h : ROK r) {mp : Int32} {mn : Bool} (hm : mp = 0 ↔ mn = false) {p0 x0 : Nat} : ∀ (w n : Nat) (s : MS) (N B : Nat → Nat → Int), sm N 369 + sm B 369 ≤ (w : Int) → w + 1 < n → s.2.2.1 15 = r → rep s N B → RG N → RG B → Ch r mn (I0 p0 x0) (fun _ _ => 1000000000) N B →
    ∃ s' M Q, f_X11_layNet_56 F mp n (Int32.ofInt 1) s = some s' ∧ rep s' M Q ∧ RG M ∧ RG Q ∧ Ch r mn (I0 p0 x0) (fun _ _ => 1000000000) M Q ∧ Clo r mn M Q ∧ KP s s' := by
  obtain ⟨c1, c2, c3, c4, c5⟩ := nTP h
  intro w
  induction w with
  | zero =>
    intro n s N B hw hn hr hs hN hB hC
    cases n with
    | zero => omega
    | succ n =>
      obtain ⟨fl', s', N', B', z1, z2, z3, z4⟩ := l64 (F := F) hF h hm (p0 := p0) (x0 := x0) (N0 := N) (B0 := B) (f_X11_layNet_56 F mp n) (nP r) 0 F false s N B (by omega) (by omega) hr hs ⟨⟨fun _ => ⟨fun _ _ => rfl, fun _ _ => rfl⟩, fun q => absurd q (by decide)⟩, hN, hB, hC, fun _ _ => Int.le_refl _, fun _ _ => Int.le_refl _, fun _ p' f' hd _ => by omega⟩
      have z1' : f_X11_layNet_64 F mp (f_X11_layNet_56 F mp n) F (Int32.ofInt 0) (Int32.ofInt 0) s = _ := z1
      obtain ⟨g1, g2, g3, g4, g5, g6, g7⟩ := z3
      cases fl' with
      | true =>
        have a1 := sm_0 g2 369
        have a2 := sm_0 g3 369
        rcases g1.2 rfl with ⟨p, f, e1, e2, e3⟩ | ⟨p, f, e1, e2, e3⟩
        · have := sm_s g5 e2 e3 369 (by omega)
          have := sm_m g6 369
          omega
        · have := sm_s g6 e2 e3 369 (by omega)
          have := sm_m g5 369
          omega
      | false =>
        have eN : N' = N := ext2 (g1.1 rfl).1
        have eB : B' = B := ext2 (g1.1 rfl).2
        cases n with
        | zero => omega
        | succ n =>
          refine ⟨s', N', B', ?_, z2, g2, g3, g4, ?_, z4⟩
          · rw [f_X11_layNet_56]
            simp (disch := omega) only [z_0, z_1, z_2, z_3, z_4, z_5, z_6, z_7, z_8, z_9, z_10, z_11, z_12, z_14, z_18, z_20, z_22, z_24, z_32, z_38, z_40, z_41, z_44, z_48, z_49, z_57, z_59, z_60, z_63, z_65, z_74, z_75, z_81, z_97, z_99, z_104, z_115, z_119, z_122, z_200, z_209, z_210, z_219, z_228, z_255, z_300, z_369, z_999, z_65537, z_268435456, z_1000000000, n_nat, n_add, n_sub, n_mul, n_neg, n_lt, n_le, n_eq, n_ix, n_gd, n_nz, lz_t, bd_some, tn, Int.reduceToNat, tn_1, if_pos, if_neg, if_true, if_false, z1']
            rw [f_X11_layNet_56]
            rfl
          · rw [eN, eB]
            exact Clo_of (fun p f hp hf => g7 rfl p f (by omega) hf)
  | succ w ih =>
    intro n s N B hw hn hr hs hN hB hC
    cases n with
    | zero => omega
    | succ n =>
      obtain ⟨fl', s', N', B', z1, z2, z3, z4⟩ := l64 (F := F) hF h hm (p0 := p0) (x0 := x0) (N0 := N) (B0 := B) (f_X11_layNet_56 F mp n) (nP r) 0 F false s N B (by omega) (by omega) hr hs ⟨⟨fun _ => ⟨fun _ _ => rfl, fun _ _ => rfl⟩, fun q => absurd q (by decide)⟩, hN, hB, hC, fun _ _ => Int.le_refl _, fun _ _ => Int.le_refl _, fun _ p' f' hd _ => by omega⟩
      have z1' : f_X11_layNet_64 F mp (f_X11_layNet_56 F mp n) F (Int32.ofInt 0) (Int32.ofInt 0) s = _ := z1
      obtain ⟨g1, g2, g3, g4, g5, g6, g7⟩ := z3
      cases fl' with
      | true =>
        have lt : sm N' 369 + sm B' 369 ≤ (w : Int) := by
          rcases g1.2 rfl with ⟨p, f, e1, e2, e3⟩ | ⟨p, f, e1, e2, e3⟩
          · have := sm_s g5 e2 e3 369 (by omega)
            have := sm_m g6 369
            omega
          · have := sm_s g6 e2 e3 369 (by omega)
            have := sm_m g5 369
            omega
        obtain ⟨s2, M, Q, y1, y2, y3, y4, y5, y6, y7⟩ := ih n s' N' B' lt (by omega) ((z4.2 15 (by omega)).trans hr) z2 g2 g3 g4
        refine ⟨s2, M, Q, ?_, y2, y3, y4, y5, y6, KP_t z4 y7⟩
        rw [f_X11_layNet_56]
        simp (disch := omega) only [z_0, z_1, z_2, z_3, z_4, z_5, z_6, z_7, z_8, z_9, z_10, z_11, z_12, z_14, z_18, z_20, z_22, z_24, z_32, z_38, z_40, z_41, z_44, z_48, z_49, z_57, z_59, z_60, z_63, z_65, z_74, z_75, z_81, z_97, z_99, z_104, z_115, z_119, z_122, z_200, z_209, z_210, z_219, z_228, z_255, z_300, z_369, z_999, z_65537, z_268435456, z_1000000000, n_nat, n_add, n_sub, n_mul, n_neg, n_lt, n_le, n_eq, n_ix, n_gd, n_nz, lz_t, bd_some, tn, Int.reduceToNat, tn_1, if_pos, if_neg, if_true, if_false, z1']
        exact y1
      | false =>
        have eN : N' = N := ext2 (g1.1 rfl).1
        have eB : B' = B := ext2 (g1.1 rfl).2
        cases n with
        | zero => omega
        | succ n =>
          refine ⟨s', N', B', ?_, z2, g2, g3, g4, ?_, z4⟩
          · rw [f_X11_layNet_56]
            simp (disch := omega) only [z_0, z_1, z_2, z_3, z_4, z_5, z_6, z_7, z_8, z_9, z_10, z_11, z_12, z_14, z_18, z_20, z_22, z_24, z_32, z_38, z_40, z_41, z_44, z_48, z_49, z_57, z_59, z_60, z_63, z_65, z_74, z_75, z_81, z_97, z_99, z_104, z_115, z_119, z_122, z_200, z_209, z_210, z_219, z_228, z_255, z_300, z_369, z_999, z_65537, z_268435456, z_1000000000, n_nat, n_add, n_sub, n_mul, n_neg, n_lt, n_le, n_eq, n_ix, n_gd, n_nz, lz_t, bd_some, tn, Int.reduceToNat, tn_1, if_pos, if_neg, if_true, if_false, z1']
            rw [f_X11_layNet_56]
            rfl
          · rw [eN, eB]
            exact Clo_of (fun p f hp hf => g7 rfl p f (by omega) hf)
theorem l2 {F : Nat} (hF : 800000000000 ≤ F) {r : Nat → Int32} (h : ROK r) {mp : Int32} {mn : Bool} (hm : mp = 0 ↔ mn = false) : ∀ (d k n : Nat) (s : MS), k + d = 369 → d < n → s.2.2.1 15 = r → (∀ j, j < k → s.2.2.1 28 j = Int32.ofInt 1000000000 ∧ s.2.2.1 29 j = Int32.ofInt 1000000000) →
    ∃ s' M Q, f_X11_layNet_2 F mp n (Int32.ofInt (k : Int)) s = some s' ∧ rep s' M Q ∧ RG M ∧ RG Q ∧ Ch r mn (I0 (wp r 0) (rd r 1).toNat) (fun _ _ => 1000000000) M Q ∧ Clo r mn M Q ∧ KP s s' := by
  obtain ⟨t0, t1, t2, t3, t4, t5, t8, t9⟩ := ROKb h
  intro d
  induction d with
  | zero =>
    intro k n s hk hn hr hs
    cases n with
    | zero => omega
    | succ n =>
      obtain ⟨w1, w2⟩ := wp_b h (i := 0) (by omega)
      have pl : f_X11_placeOf F s (Int32.ofInt 0) = some (Int32.ofInt (wp r 0 : Int)) := A11_place (F := F) hr h (i := 0) (by omega)
      have r1 : s.2.2.1 15 1 = Int32.ofInt (rd r 1) := by rw [hr]; exact rd_e r 1
      have rgI : RG (I0 (wp r 0) (rd r 1).toNat) := by
        intro p f
        unfold I0
        split <;> omega
      have rgB : RG (fun _ _ => 1000000000) := fun _ _ => (by omega : (0 : Int) ≤ 1000000000 ∧ (1000000000 : Int) ≤ 1000000000)
      have a1 := sm_0 rgI 369
      have a2 := sm_0 rgB 369
      have ec : (41 * (wp r 0 : Int) + rd r 1).toNat = 41 * wp r 0 + (rd r 1).toNat := by omega
      obtain ⟨s', M, Q, z1, z2, z3, z4, z5, z6, z7⟩ := l56 (F := F) (by omega) h hm (p0 := wp r 0) (x0 := (rd r 1).toNat) 738000000000 F (sA s 28 (41 * wp r 0 + (rd r 1).toNat) (Int32.ofInt 0)) (I0 (wp r 0) (rd r 1).toNat) (fun _ _ => 1000000000) (by omega) (by omega) (by simp (disch := omega) only [sI_a, sI_b, sL_a, sL_b, sL_c, wA_a, wA_b, wA_c, wA_d, wB_a, wB_b, wB_c, wB_d, sA_w, sB_w, uN_s, uN_n, up_s, up_n, ul_s, ul_n, p_fst, p_snd]; exact hr) (by
        intro p f hp hf
        refine ⟨?_, by simp (disch := omega) only [sI_a, sI_b, sL_a, sL_b, sL_c, wA_a, wA_b, wA_c, wA_d, wB_a, wB_b, wB_c, wB_d, sA_w, sB_w, uN_s, uN_n, up_s, up_n, ul_s, ul_n, p_fst, p_snd]; exact (hs _ (by omega)).2⟩
        unfold I0
        by_cases e : p = wp r 0 ∧ f = (rd r 1).toNat
        · rw [if_pos e, e.1, e.2]
          simp (disch := omega) only [sI_a, sI_b, sL_a, sL_b, sL_c, wA_a, wA_b, wA_c, wA_d, wB_a, wB_b, wB_c, wB_d, sA_w, sB_w, uN_s, uN_n, up_s, up_n, ul_s, ul_n, p_fst, p_snd]
        · rw [if_neg e]
          simp (disch := omega) only [sI_a, sI_b, sL_a, sL_b, sL_c, wA_a, wA_b, wA_c, wA_d, wB_a, wB_b, wB_c, wB_d, sA_w, sB_w, uN_s, uN_n, up_s, up_n, ul_s, ul_n, p_fst, p_snd]
          exact (hs _ (by omega)).1) rgI rgB (Ch_r _ _ _ _)
      refine ⟨s', M, Q, ?_, z2, z3, z4, z5, z6, KP_t (KP_w _ _ (by omega)) z7⟩
      rw [f_X11_layNet_2]
      simp (disch := omega) only [z_0, z_1, z_2, z_3, z_4, z_5, z_6, z_7, z_8, z_9, z_10, z_11, z_12, z_14, z_18, z_20, z_22, z_24, z_32, z_38, z_40, z_41, z_44, z_48, z_49, z_57, z_59, z_60, z_63, z_65, z_74, z_75, z_81, z_97, z_99, z_104, z_115, z_119, z_122, z_200, z_209, z_210, z_219, z_228, z_255, z_300, z_369, z_999, z_65537, z_268435456, z_1000000000, n_nat, n_add, n_sub, n_mul, n_neg, n_lt, n_le, n_eq, n_ix, n_gd, n_nz, lz_t, bd_some, tn, Int.reduceToNat, tn_1, if_pos, if_neg, if_true, if_false, f_X11_layNet_33, pl, r1, ec]
      exact z1
  | succ d ih =>
    intro k n s hk hn hr hs
    cases n with
    | zero => omega
    | succ n =>
      obtain ⟨s', M, Q, z1, z2, z3, z4, z5, z6, z7⟩ := ih (k + 1) n (sA (sA s 28 k (Int32.ofInt 1000000000)) 29 k (Int32.ofInt 1000000000)) (by omega) (by omega) (by simp (disch := omega) only [sI_a, sI_b, sL_a, sL_b, sL_c, wA_a, wA_b, wA_c, wA_d, wB_a, wB_b, wB_c, wB_d, sA_w, sB_w, uN_s, uN_n, up_s, up_n, ul_s, ul_n, p_fst, p_snd]; exact hr) (by
        intro j hj
        by_cases e : j = k
        · subst e
          simp (disch := omega) only [sI_a, sI_b, sL_a, sL_b, sL_c, wA_a, wA_b, wA_c, wA_d, wB_a, wB_b, wB_c, wB_d, sA_w, sB_w, uN_s, uN_n, up_s, up_n, ul_s, ul_n, p_fst, p_snd]
          exact ⟨trivial, trivial⟩
        · simp (disch := omega) only [sI_a, sI_b, sL_a, sL_b, sL_c, wA_a, wA_b, wA_c, wA_d, wB_a, wB_b, wB_c, wB_d, sA_w, sB_w, uN_s, uN_n, up_s, up_n, ul_s, ul_n, p_fst, p_snd]
          exact hs j (by omega))
      refine ⟨s', M, Q, ?_, z2, z3, z4, z5, z6, KP_t (KP_t (KP_w _ _ (by omega)) (KP_w _ _ (by omega))) z7⟩
      rw [f_X11_layNet_2]
      simp (disch := omega) only [z_0, z_1, z_2, z_3, z_4, z_5, z_6, z_7, z_8, z_9, z_10, z_11, z_12, z_14, z_18, z_20, z_22, z_24, z_32, z_38, z_40, z_41, z_44, z_48, z_49, z_57, z_59, z_60, z_63, z_65, z_74, z_75, z_81, z_97, z_99, z_104, z_115, z_119, z_122, z_200, z_209, z_210, z_219, z_228, z_255, z_300, z_369, z_999, z_65537, z_268435456, z_1000000000, n_nat, n_add, n_sub, n_mul, n_neg, n_lt, n_le, n_eq, n_ix, n_gd, n_nz, lz_t, bd_some, tn, Int.reduceToNat, tn_1, if_pos, if_neg, if_true, if_false]
      exact z1
theorem layNet_e {F : Nat} (hF : 800000000000 ≤ F) {r : Nat → Int32} (h : ROK r) {mp : Int32} {mn : Bool} (hm : mp = 0 ↔ mn = false) (s : MS) (hr : s.2.2.1 15 = r) :
    ∃ s' M Q, f_X11_layNet F mp s = some s' ∧ rep s' M Q ∧ RG M ∧ RG Q ∧ Ch r mn (I0 (wp r 0) (rd r 1).toNat) (fun _ _ => 1000000000) M Q ∧ Clo r mn M Q ∧ KP s s' := l2 hF h hm 369 0 F s (by omega) (by omega) hr (fun j hj => by omega)
