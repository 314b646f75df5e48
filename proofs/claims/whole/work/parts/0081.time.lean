/-! time -/
/-- minutes of a leg -/
def lm (r : Nat → Int32) (i : Nat) : Int32 := r (119 + (9 * (r (200 + i)).toNatClampNeg + (r (200 + (i + 1))).toNatClampNeg))
theorem X9_legMinutes {F : Nat} {s : MS} {r : Nat → Int32} (hR : RR s r) (h : ROK r) {i : Nat} (hi : (i : Int) + 1 < (r 8).toInt) : f_X9_legMinutes F s (Int32.ofNat i) = some (lm r i) := by
  have h8 := h.2.2.2.2.2.2.2.2.1
  obtain ⟨g1, g2⟩ := i9 i (by omega)
  obtain ⟨g3, g4⟩ := i9 (i + 1) (by omega)
  obtain ⟨a, ha, -, ea, ea'⟩ := wy h (show (i : Int) < (r 8).toInt by omega)
  obtain ⟨b, hb, -, eb, eb'⟩ := wy h (show ((i + 1 : Nat) : Int) < (r 8).toInt by omega)
  unfold f_X9_legMinutes lm
  rw [one_n, gd_t g1, lz_t, gd_t g3, lz_t, g2, g4, hR.2.2.2.2.1 i (by omega), hR.2.2.2.2.1 (i + 1) (by omega), ea, eb, X9_minutesOf hR ha hb, bd_some, ← ea, ← eb, ea', eb']
theorem time_go {F : Nat} {sPl sRo sMo : MS} (hR : RR sRo (sMo.2.2.1 15)) (h : ROK (sMo.2.2.1 15)) (hP : PP sPl sMo) : ∀ (d k n n' : Nat) (x : Int32), (k : Int) + 1 + d = (sMo.2.2.1 15 8).toInt → d < n → d < n' → ∃ v, f_X6_minutes_4 F sPl sRo n x (Int32.ofNat k) = some v ∧ f_X11_time_36 F n' x (Int32.ofNat k) sMo = some (v, sMo) := by
  have h8 := h.2.2.2.2.2.2.2.2.1
  have e8 : sRo.1 8 = sMo.2.2.1 15 8 := hR.1 8 (by decide)
  have e3 : sRo.1 3 = sMo.2.2.1 15 3 := hR.1 3 (by decide)
  have q3 : (3 : Int32).toNatClampNeg = 3 := by decide
  intro d
  induction d with
  | zero =>
    intro k n n' x h1 h2 h3
    cases n with
    | zero => omega
    | succ n =>
      cases n' with
      | zero => omega
      | succ n' =>
        refine ⟨x, ?_, ?_⟩
        · rw [f_X6_minutes_4, e8, if_pos ((last_le h (by omega)).mpr (by omega))]
        · rw [f_X11_time_36, X11_lastStation h, bd_some, if_pos ((lastI_le h (by omega)).mpr (by omega))]
  | succ d ih =>
    intro k n n' x h1 h2 h3
    cases n with
    | zero => omega
    | succ n =>
      cases n' with
      | zero => omega
      | succ n' =>
        obtain ⟨g1, g2⟩ := i9 k (by omega)
        obtain ⟨p1, p2, p3⟩ := hP k (by omega)
        obtain ⟨a, ha, -, ea, ea'⟩ := wy h (show (k : Int) < (sMo.2.2.1 15 8).toInt by omega)
        obtain ⟨b, hb, -, eb, eb'⟩ := wy h (show ((k + 1 : Nat) : Int) < (sMo.2.2.1 15 8).toInt by omega)
        obtain ⟨m1, m2⟩ := ix119 a ha b hb
        have el : lm (sMo.2.2.1 15) k = sMo.2.2.1 15 (119 + (9 * a + b)) := by unfold lm; rw [ea', eb']
        have G1 : ∀ (o : Option Int32), gd (vpb (Int32.ofNat k) 9) o = o := fun _ => gd_t g1
        have G2 : ∀ (o : Option (Int32 × MS)), gd (vpb (Int32.ofNat k) 9) o = o := fun _ => gd_t g1
        have G0 : ∀ (o : Option (Int32 × MS)), gd (vpb (3 : Int32) 300) o = o := fun _ => gd_t (by decide)
        have G3 : ∀ (o : Option (Int32 × MS)), gd (vpb (((119 : Int32) + ((9 : Int32) * Int32.ofNat a)) + Int32.ofNat b) 300) o = o := fun _ => gd_t m1
        rw [f_X6_minutes_4, f_X11_time_36, e8, if_neg (fun q => absurd ((last_le h (by omega)).mp q) (by omega)), X11_lastStation h, bd_some, if_neg (fun q => absurd ((lastI_le h (by omega)).mp q) (by omega)), X9_legMinutes hR h (by omega), one_n, X11_placeOf (i := k) (by omega), X11_placeOf (i := k + 1) (by omega), ea, eb]
        unfold f_X6_minutes_37 f_X11_time_88
        simp only [bd_some, G1, G2, G0, G3, lz_t, g2, q3, one_n, p1, e3, m2, el]
        by_cases c : sMo.2.2.1 17 k ≤ 0
        · rw [if_pos c, if_pos c]
          exact ih (k + 1) n n' _ (by omega) (by omega) (by omega)
        · rw [if_neg c, if_neg c]
          exact ih (k + 1) n n' _ (by omega) (by omega) (by omega)
theorem P_time {F : Nat} (hF : 100 ≤ F) {sMn sRo sPl sMo : MS} (hR : RR sRo (sMo.2.2.1 15)) (H : HR (sMo.2.2.1 15) (sMo.1 14)) (hP : PP sPl sMo) :
    ∃ v sMn' sMo', f_X10_time F sPl sRo sMn = some (v, sMn') ∧ f_X11_time F sMo = some (v, sMo') ∧ TT sMn sMo sMn' sMo' := by
  unfold f_X10_time f_X11_time
  rw [X9_isTold hR H, bd_some, X11_good, bd_some, show (sI (sI sMo 0 0) 11 0).1 14 = sMo.1 14 from rfl]
  rcases H with ⟨h1, h2⟩ | ⟨h1, h2⟩
  · have h8 := h2.2.2.2.2.2.2.2.2.1
    rw [h1, if_neg (by decide), if_neg (by decide)]
    obtain ⟨v, v1, v2⟩ := judged_eq (F := F) hF (sMo := sI (sI sMo 0 0) 11 0) hR h2 hP
    rw [v1, bd_some, v2, bd_some]
    by_cases c : v = -2
    · rw [if_pos c, if_pos c]
      obtain ⟨w, w1, w2⟩ := time_go (F := F) (sMo := sI (sI sMo 0 0) 11 0) hR h2 hP ((sMo.2.2.1 15 8).toInt - 1).toNat 0 F F 0 (by show _ = (sMo.2.2.1 15 8).toInt; omega) (by omega) (by omega)
      unfold f_X6_minutes
      have l0 : Int32.ofNat 0 = 0 := rfl
      rw [l0] at w1 w2
      rw [w1, bd_some, w2]
      exact ⟨_, _, _, rfl, rfl, TT_ok sMn sMo⟩
    · rw [if_neg c, if_neg c]
      exact ⟨-1, _, _, rfl, rfl, TT_no sMn sMo 5⟩
  · rw [h1, if_pos rfl, if_pos rfl]
    exact ⟨-1, _, _, rfl, rfl, TT_no sMn sMo 1⟩
