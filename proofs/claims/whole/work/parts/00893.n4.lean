/-! what no call but road does: trouble 4 -/
def N4 {α : Type} (g : α → MS) (o : Option α) : Prop := ∀ x, o = some x → (g x).1 11 ≠ 4
theorem n4_bd {α β : Type} {g : β → MS} {o : Option α} {k : α → Option β} (h : ∀ x, o = some x → N4 g (k x)) : N4 g (bd o k) := fun y hy => by
  obtain ⟨x, h1, h2⟩ := bd_s hy
  exact h x h1 y h2
theorem n4_if {β : Type} {g : β → MS} {c : Prop} [Decidable c] {a b : Option β} (h1 : N4 g a) (h2 : N4 g b) : N4 g (if c then a else b) := by
  split
  · exact h1
  · exact h2
theorem n4_lz {α β : Type} {g : β → MS} {e : α} {k : α → Option β} (h : N4 g (k e)) : N4 g (lz e k) := h
theorem n4_gd {β : Type} {g : β → MS} {b : Bool} {k : Option β} (h : N4 g k) : N4 g (gd b k) := fun y hy => h y (gd_s hy).2
theorem n4_some {β : Type} {g : β → MS} {x : β} (h : (g x).1 11 ≠ 4) : N4 g (some x) := fun y hy => by
  cases hy
  exact h
theorem n4_none {β : Type} {g : β → MS} : N4 g none := fun y hy => by cases hy
theorem n4_ac {F : Nat} {v : Int32} {s : MS} {o : Int32 × MS} (h : f_X10_accept F v s = some o) : o.2.1 11 ≠ 4 := by
  rw [X10_accept] at h
  cases h
  show (sI s 11 0).1 11 ≠ 4
  rw [sI_s]
  decide
theorem n4_re {F : Nat} {v : Int32} {s : MS} {o : Int32 × MS} (hv : v ≠ 4) (h : f_X10_refuse F v s = some o) : o.2.1 11 ≠ 4 := by
  rw [X10_refuse] at h
  cases h
  show (sI s 11 v).1 11 ≠ 4
  rw [sI_s]
  exact hv
theorem n4_al {F : Nat} {s : MS} {o : Int32 × MS} (h : f_X10_allow F s = some o) : o.2.1 11 ≠ 4 := by
  rw [X10_allow] at h
  cases h
  show (sI s 11 0).1 11 ≠ 4
  rw [sI_s]
  decide
theorem n4_de {F : Nat} {v : Int32} {s : MS} {o : Int32 × MS} (hv : v ≠ 4) (h : f_X10_deny F v s = some o) : o.2.1 11 ≠ 4 := by
  rw [X10_deny] at h
  cases h
  show (sI s 11 v).1 11 ≠ 4
  rw [sI_s]
  exact hv
theorem n4_fr {F : Nat} {sFr s : MS} {p : Int32} {o : Int64 × MS} (h : f_X10_acceptFraction F sFr p s = some o) : o.2.1 11 ≠ 4 := by
  unfold f_X10_acceptFraction at h
  rw [lz_t] at h
  split at h
  all_goals
    cases h
    show (sI s 11 0).1 11 ≠ 4
    rw [sI_s]
    decide
theorem i4_0 : (0 : Int32) ≠ 4 := by decide
theorem i4_1 : (1 : Int32) ≠ 4 := by decide
theorem i4_2 : (2 : Int32) ≠ 4 := by decide
theorem i4_3 : (3 : Int32) ≠ 4 := by decide
theorem i4_5 : (5 : Int32) ≠ 4 := by decide
theorem i4_6 : (6 : Int32) ≠ 4 := by decide
theorem n4_wb {F : Nat} {sMn sRo : MS} {p1 p2 p3 c : Int32} (h : f_X10_whyNoBuying F sMn sRo p1 p2 p3 = some c) : c ≠ 4 := by
  unfold f_X10_whyNoBuying at h
  obtain ⟨x, -, h⟩ := bd_s h
  split at h
  · cases h; decide
  · obtain ⟨x, -, h⟩ := bd_s h
    split at h
    · cases h; decide
    · obtain ⟨x, -, h⟩ := bd_s h
      split at h
      · cases h; decide
      · cases h; decide
theorem n4_wr {F : Nat} {sMn sRo : MS} {p1 p2 p3 c : Int32} (h : f_X10_whyNoRuns F sMn sRo p1 p2 p3 = some c) : c ≠ 4 := by
  unfold f_X10_whyNoRuns at h
  obtain ⟨x, -, h⟩ := bd_s h
  split at h
  · cases h; decide
  · obtain ⟨x, -, h⟩ := bd_s h
    split at h
    · cases h; decide
    · split at h
      · cases h; decide
      · split at h
        · cases h; decide
        · cases h; decide
theorem n4_takes {F : Nat} {sRo : MS} {p1 : Int32} {p2 : Int32} {p3 : Int32} {sMn : MS} : N4 (fun x => x.2) (f_X10_takes F sRo p1 p2 p3 sMn) := by
  unfold f_X10_takes f_X10_takes_60
  repeat' (first | with_reducible refine n4_bd (fun _ _ => ?_) | with_reducible refine n4_if ?_ ?_ | with_reducible refine n4_lz ?_ | with_reducible refine n4_gd ?_ | with_reducible refine n4_some ?_)
  all_goals first | exact n4_ac (by assumption) | exact n4_fr (by assumption) | exact n4_al (by assumption) | exact n4_re i4_1 (by assumption) | exact n4_re i4_2 (by assumption) | exact n4_re i4_5 (by assumption) | exact n4_re i4_6 (by assumption) | exact n4_re i4_3 (by assumption) | exact n4_de i4_1 (by assumption) | exact n4_de i4_2 (by assumption) | exact n4_de i4_5 (by assumption) | exact n4_de i4_6 (by assumption) | exact n4_de i4_3 (by assumption) | exact n4_re (n4_wb (by assumption)) (by assumption) | exact n4_re (n4_wr (by assumption)) (by assumption)
theorem n4_pump {F : Nat} {sRo : MS} {p1 : Int32} {p2 : Int32} {sMn : MS} : N4 (fun x => x.2) (f_X10_pump F sRo p1 p2 sMn) := by
  unfold f_X10_pump f_X10_pump_20 f_X10_pump_100
  repeat' (first | with_reducible refine n4_bd (fun _ _ => ?_) | with_reducible refine n4_if ?_ ?_ | with_reducible refine n4_lz ?_ | with_reducible refine n4_gd ?_ | with_reducible refine n4_some ?_)
  all_goals first | exact n4_ac (by assumption) | exact n4_fr (by assumption) | exact n4_al (by assumption) | exact n4_re i4_1 (by assumption) | exact n4_re i4_2 (by assumption) | exact n4_re i4_5 (by assumption) | exact n4_re i4_6 (by assumption) | exact n4_re i4_3 (by assumption) | exact n4_de i4_1 (by assumption) | exact n4_de i4_2 (by assumption) | exact n4_de i4_5 (by assumption) | exact n4_de i4_6 (by assumption) | exact n4_de i4_3 (by assumption) | exact n4_re (n4_wb (by assumption)) (by assumption) | exact n4_re (n4_wr (by assumption)) (by assumption)
theorem n4_station {F : Nat} {sRo : MS} {p1 : Int32} {sMn : MS} : N4 (fun x => x.2) (f_X10_station F sRo p1 sMn) := by
  unfold f_X10_station
  repeat' (first | with_reducible refine n4_bd (fun _ _ => ?_) | with_reducible refine n4_if ?_ ?_ | with_reducible refine n4_lz ?_ | with_reducible refine n4_gd ?_ | with_reducible refine n4_some ?_)
  all_goals first | exact n4_ac (by assumption) | exact n4_fr (by assumption) | exact n4_al (by assumption) | exact n4_re i4_1 (by assumption) | exact n4_re i4_2 (by assumption) | exact n4_re i4_5 (by assumption) | exact n4_re i4_6 (by assumption) | exact n4_re i4_3 (by assumption) | exact n4_de i4_1 (by assumption) | exact n4_de i4_2 (by assumption) | exact n4_de i4_5 (by assumption) | exact n4_de i4_6 (by assumption) | exact n4_de i4_3 (by assumption) | exact n4_re (n4_wb (by assumption)) (by assumption) | exact n4_re (n4_wr (by assumption)) (by assumption)
theorem n4_legs {F : Nat} {sRo : MS} {p1 : Int32} {p2 : Int32} {sMn : MS} : N4 (fun x => x.2) (f_X10_legs F sRo p1 p2 sMn) := by
  unfold f_X10_legs f_X10_legs_27
  repeat' (first | with_reducible refine n4_bd (fun _ _ => ?_) | with_reducible refine n4_if ?_ ?_ | with_reducible refine n4_lz ?_ | with_reducible refine n4_gd ?_ | with_reducible refine n4_some ?_)
  all_goals first | exact n4_ac (by assumption) | exact n4_fr (by assumption) | exact n4_al (by assumption) | exact n4_re i4_1 (by assumption) | exact n4_re i4_2 (by assumption) | exact n4_re i4_5 (by assumption) | exact n4_re i4_6 (by assumption) | exact n4_re i4_3 (by assumption) | exact n4_de i4_1 (by assumption) | exact n4_de i4_2 (by assumption) | exact n4_de i4_5 (by assumption) | exact n4_de i4_6 (by assumption) | exact n4_de i4_3 (by assumption) | exact n4_re (n4_wb (by assumption)) (by assumption) | exact n4_re (n4_wr (by assumption)) (by assumption)
theorem n4_lasts {F : Nat} {sRo : MS} {p1 : Int32} {p2 : Int32} {sMn : MS} : N4 (fun x => x.2) (f_X10_lasts F sRo p1 p2 sMn) := by
  unfold f_X10_lasts
  repeat' (first | with_reducible refine n4_bd (fun _ _ => ?_) | with_reducible refine n4_if ?_ ?_ | with_reducible refine n4_lz ?_ | with_reducible refine n4_gd ?_ | with_reducible refine n4_some ?_)
  all_goals first | exact n4_ac (by assumption) | exact n4_fr (by assumption) | exact n4_al (by assumption) | exact n4_re i4_1 (by assumption) | exact n4_re i4_2 (by assumption) | exact n4_re i4_5 (by assumption) | exact n4_re i4_6 (by assumption) | exact n4_re i4_3 (by assumption) | exact n4_de i4_1 (by assumption) | exact n4_de i4_2 (by assumption) | exact n4_de i4_5 (by assumption) | exact n4_de i4_6 (by assumption) | exact n4_de i4_3 (by assumption) | exact n4_re (n4_wb (by assumption)) (by assumption) | exact n4_re (n4_wr (by assumption)) (by assumption)
theorem n4_plan {F : Nat} {sRo : MS} {p1 : Int32} {p2 : Int32} {sMn : MS} {sPl : MS} : N4 (fun x => x.2.1) (f_X10_plan F sRo p1 p2 sMn sPl) := by
  unfold f_X10_plan
  repeat' (first | with_reducible refine n4_bd (fun _ _ => ?_) | with_reducible refine n4_if ?_ ?_ | with_reducible refine n4_lz ?_ | with_reducible refine n4_gd ?_ | with_reducible refine n4_some ?_)
  all_goals first | exact n4_ac (by assumption) | exact n4_fr (by assumption) | exact n4_al (by assumption) | exact n4_re i4_1 (by assumption) | exact n4_re i4_2 (by assumption) | exact n4_re i4_5 (by assumption) | exact n4_re i4_6 (by assumption) | exact n4_re i4_3 (by assumption) | exact n4_de i4_1 (by assumption) | exact n4_de i4_2 (by assumption) | exact n4_de i4_5 (by assumption) | exact n4_de i4_6 (by assumption) | exact n4_de i4_3 (by assumption) | exact n4_re (n4_wb (by assumption)) (by assumption) | exact n4_re (n4_wr (by assumption)) (by assumption)
theorem n4_judge {F : Nat} {sPl : MS} {sRo : MS} {sMn : MS} : N4 (fun x => x.2) (f_X10_judge F sPl sRo sMn) := by
  unfold f_X10_judge
  repeat' (first | with_reducible refine n4_bd (fun _ _ => ?_) | with_reducible refine n4_if ?_ ?_ | with_reducible refine n4_lz ?_ | with_reducible refine n4_gd ?_ | with_reducible refine n4_some ?_)
  all_goals first | exact n4_ac (by assumption) | exact n4_fr (by assumption) | exact n4_al (by assumption) | exact n4_re i4_1 (by assumption) | exact n4_re i4_2 (by assumption) | exact n4_re i4_5 (by assumption) | exact n4_re i4_6 (by assumption) | exact n4_re i4_3 (by assumption) | exact n4_de i4_1 (by assumption) | exact n4_de i4_2 (by assumption) | exact n4_de i4_5 (by assumption) | exact n4_de i4_6 (by assumption) | exact n4_de i4_3 (by assumption) | exact n4_re (n4_wb (by assumption)) (by assumption) | exact n4_re (n4_wr (by assumption)) (by assumption)
theorem n4_cost {F : Nat} {sPl : MS} {sRo : MS} {sMn : MS} : N4 (fun x => x.2) (f_X10_cost F sPl sRo sMn) := by
  unfold f_X10_cost
  repeat' (first | with_reducible refine n4_bd (fun _ _ => ?_) | with_reducible refine n4_if ?_ ?_ | with_reducible refine n4_lz ?_ | with_reducible refine n4_gd ?_ | with_reducible refine n4_some ?_)
  all_goals first | exact n4_ac (by assumption) | exact n4_fr (by assumption) | exact n4_al (by assumption) | exact n4_re i4_1 (by assumption) | exact n4_re i4_2 (by assumption) | exact n4_re i4_5 (by assumption) | exact n4_re i4_6 (by assumption) | exact n4_re i4_3 (by assumption) | exact n4_de i4_1 (by assumption) | exact n4_de i4_2 (by assumption) | exact n4_de i4_5 (by assumption) | exact n4_de i4_6 (by assumption) | exact n4_de i4_3 (by assumption) | exact n4_re (n4_wb (by assumption)) (by assumption) | exact n4_re (n4_wr (by assumption)) (by assumption)
theorem n4_cheapest {F : Nat} {sRo : MS} {sMn : MS} {sPl : MS} {sPc : MS} : N4 (fun x => x.2.1) (f_X10_cheapest F sRo sMn sPl sPc) := by
  unfold f_X10_cheapest
  repeat' (first | with_reducible refine n4_bd (fun _ _ => ?_) | with_reducible refine n4_if ?_ ?_ | with_reducible refine n4_lz ?_ | with_reducible refine n4_gd ?_ | with_reducible refine n4_some ?_)
  all_goals first | exact n4_ac (by assumption) | exact n4_fr (by assumption) | exact n4_al (by assumption) | exact n4_re i4_1 (by assumption) | exact n4_re i4_2 (by assumption) | exact n4_re i4_5 (by assumption) | exact n4_re i4_6 (by assumption) | exact n4_re i4_3 (by assumption) | exact n4_de i4_1 (by assumption) | exact n4_de i4_2 (by assumption) | exact n4_de i4_5 (by assumption) | exact n4_de i4_6 (by assumption) | exact n4_de i4_3 (by assumption) | exact n4_re (n4_wb (by assumption)) (by assumption) | exact n4_re (n4_wr (by assumption)) (by assumption)
theorem n4_how {F : Nat} {sRo : MS} {p1 : Int32} {sMn : MS} {sPl : MS} {sPc : MS} : N4 (fun x => x.2.1) (f_X10_how F sRo p1 sMn sPl sPc) := by
  unfold f_X10_how
  repeat' (first | with_reducible refine n4_bd (fun _ _ => ?_) | with_reducible refine n4_if ?_ ?_ | with_reducible refine n4_lz ?_ | with_reducible refine n4_gd ?_ | with_reducible refine n4_some ?_)
  all_goals first | exact n4_ac (by assumption) | exact n4_fr (by assumption) | exact n4_al (by assumption) | exact n4_re i4_1 (by assumption) | exact n4_re i4_2 (by assumption) | exact n4_re i4_5 (by assumption) | exact n4_re i4_6 (by assumption) | exact n4_re i4_3 (by assumption) | exact n4_de i4_1 (by assumption) | exact n4_de i4_2 (by assumption) | exact n4_de i4_5 (by assumption) | exact n4_de i4_6 (by assumption) | exact n4_de i4_3 (by assumption) | exact n4_re (n4_wb (by assumption)) (by assumption) | exact n4_re (n4_wr (by assumption)) (by assumption)
theorem n4_fewest {F : Nat} {sPl : MS} {sRo : MS} {sMn : MS} {sPb : MS} : N4 (fun x => x.2.1) (f_X10_fewest F sPl sRo sMn sPb) := by
  unfold f_X10_fewest
  repeat' (first | with_reducible refine n4_bd (fun _ _ => ?_) | with_reducible refine n4_if ?_ ?_ | with_reducible refine n4_lz ?_ | with_reducible refine n4_gd ?_ | with_reducible refine n4_some ?_)
  all_goals first | exact n4_ac (by assumption) | exact n4_fr (by assumption) | exact n4_al (by assumption) | exact n4_re i4_1 (by assumption) | exact n4_re i4_2 (by assumption) | exact n4_re i4_5 (by assumption) | exact n4_re i4_6 (by assumption) | exact n4_re i4_3 (by assumption) | exact n4_de i4_1 (by assumption) | exact n4_de i4_2 (by assumption) | exact n4_de i4_5 (by assumption) | exact n4_de i4_6 (by assumption) | exact n4_de i4_3 (by assumption) | exact n4_re (n4_wb (by assumption)) (by assumption) | exact n4_re (n4_wr (by assumption)) (by assumption)
theorem n4_time {F : Nat} {sPl : MS} {sRo : MS} {sMn : MS} : N4 (fun x => x.2) (f_X10_time F sPl sRo sMn) := by
  unfold f_X10_time
  repeat' (first | with_reducible refine n4_bd (fun _ _ => ?_) | with_reducible refine n4_if ?_ ?_ | with_reducible refine n4_lz ?_ | with_reducible refine n4_gd ?_ | with_reducible refine n4_some ?_)
  all_goals first | exact n4_ac (by assumption) | exact n4_fr (by assumption) | exact n4_al (by assumption) | exact n4_re i4_1 (by assumption) | exact n4_re i4_2 (by assumption) | exact n4_re i4_5 (by assumption) | exact n4_re i4_6 (by assumption) | exact n4_re i4_3 (by assumption) | exact n4_de i4_1 (by assumption) | exact n4_de i4_2 (by assumption) | exact n4_de i4_5 (by assumption) | exact n4_de i4_6 (by assumption) | exact n4_de i4_3 (by assumption) | exact n4_re (n4_wb (by assumption)) (by assumption) | exact n4_re (n4_wr (by assumption)) (by assumption)
theorem n4_without {F : Nat} {sRo : MS} {p1 : Int32} {sMn : MS} {sPl : MS} {sPc : MS} : N4 (fun x => x.2.1) (f_X10_without F sRo p1 sMn sPl sPc) := by
  unfold f_X10_without
  repeat' (first | with_reducible refine n4_bd (fun _ _ => ?_) | with_reducible refine n4_if ?_ ?_ | with_reducible refine n4_lz ?_ | with_reducible refine n4_gd ?_ | with_reducible refine n4_some ?_)
  all_goals first | exact n4_ac (by assumption) | exact n4_fr (by assumption) | exact n4_al (by assumption) | exact n4_re i4_1 (by assumption) | exact n4_re i4_2 (by assumption) | exact n4_re i4_5 (by assumption) | exact n4_re i4_6 (by assumption) | exact n4_re i4_3 (by assumption) | exact n4_de i4_1 (by assumption) | exact n4_de i4_2 (by assumption) | exact n4_de i4_5 (by assumption) | exact n4_de i4_6 (by assumption) | exact n4_de i4_3 (by assumption) | exact n4_re (n4_wb (by assumption)) (by assumption) | exact n4_re (n4_wr (by assumption)) (by assumption)
theorem n4_gap {F : Nat} {sRo : MS} {sMn : MS} {sPl : MS} {sPc : MS} : N4 (fun x => x.2.1) (f_X10_gap F sRo sMn sPl sPc) := by
  unfold f_X10_gap
  repeat' (first | with_reducible refine n4_bd (fun _ _ => ?_) | with_reducible refine n4_if ?_ ?_ | with_reducible refine n4_lz ?_ | with_reducible refine n4_gd ?_ | with_reducible refine n4_some ?_)
  all_goals first | exact n4_ac (by assumption) | exact n4_fr (by assumption) | exact n4_al (by assumption) | exact n4_re i4_1 (by assumption) | exact n4_re i4_2 (by assumption) | exact n4_re i4_5 (by assumption) | exact n4_re i4_6 (by assumption) | exact n4_re i4_3 (by assumption) | exact n4_de i4_1 (by assumption) | exact n4_de i4_2 (by assumption) | exact n4_de i4_5 (by assumption) | exact n4_de i4_6 (by assumption) | exact n4_de i4_3 (by assumption) | exact n4_re (n4_wb (by assumption)) (by assumption) | exact n4_re (n4_wr (by assumption)) (by assumption)
theorem n4_within {F : Nat} {sPl : MS} {sRo : MS} {p1 : Int32} {sMn : MS} {sPb : MS} : N4 (fun x => x.2.1) (f_X10_within F sPl sRo p1 sMn sPb) := by
  unfold f_X10_within f_X10_within_26
  repeat' (first | with_reducible refine n4_bd (fun _ _ => ?_) | with_reducible refine n4_if ?_ ?_ | with_reducible refine n4_lz ?_ | with_reducible refine n4_gd ?_ | with_reducible refine n4_some ?_)
  all_goals first | exact n4_ac (by assumption) | exact n4_fr (by assumption) | exact n4_al (by assumption) | exact n4_re i4_1 (by assumption) | exact n4_re i4_2 (by assumption) | exact n4_re i4_5 (by assumption) | exact n4_re i4_6 (by assumption) | exact n4_re i4_3 (by assumption) | exact n4_de i4_1 (by assumption) | exact n4_de i4_2 (by assumption) | exact n4_de i4_5 (by assumption) | exact n4_de i4_6 (by assumption) | exact n4_de i4_3 (by assumption) | exact n4_re (n4_wb (by assumption)) (by assumption) | exact n4_re (n4_wr (by assumption)) (by assumption)
theorem n4_rest {F : Nat} {sRo : MS} {sMn : MS} {sPl : MS} {sPc : MS} : N4 (fun x => x.2.1) (f_X10_rest F sRo sMn sPl sPc) := by
  unfold f_X10_rest
  repeat' (first | with_reducible refine n4_bd (fun _ _ => ?_) | with_reducible refine n4_if ?_ ?_ | with_reducible refine n4_lz ?_ | with_reducible refine n4_gd ?_ | with_reducible refine n4_some ?_)
  all_goals first | exact n4_ac (by assumption) | exact n4_fr (by assumption) | exact n4_al (by assumption) | exact n4_re i4_1 (by assumption) | exact n4_re i4_2 (by assumption) | exact n4_re i4_5 (by assumption) | exact n4_re i4_6 (by assumption) | exact n4_re i4_3 (by assumption) | exact n4_de i4_1 (by assumption) | exact n4_de i4_2 (by assumption) | exact n4_de i4_5 (by assumption) | exact n4_de i4_6 (by assumption) | exact n4_de i4_3 (by assumption) | exact n4_re (n4_wb (by assumption)) (by assumption) | exact n4_re (n4_wr (by assumption)) (by assumption)
theorem n4_need {F : Nat} {sRo : MS} {sMn : MS} {sPl : MS} {sPc : MS} : N4 (fun x => x.2.1) (f_X10_need F sRo sMn sPl sPc) := by
  unfold f_X10_need
  repeat' (first | with_reducible refine n4_bd (fun _ _ => ?_) | with_reducible refine n4_if ?_ ?_ | with_reducible refine n4_lz ?_ | with_reducible refine n4_gd ?_ | with_reducible refine n4_some ?_)
  all_goals first | exact n4_ac (by assumption) | exact n4_fr (by assumption) | exact n4_al (by assumption) | exact n4_re i4_1 (by assumption) | exact n4_re i4_2 (by assumption) | exact n4_re i4_5 (by assumption) | exact n4_re i4_6 (by assumption) | exact n4_re i4_3 (by assumption) | exact n4_de i4_1 (by assumption) | exact n4_de i4_2 (by assumption) | exact n4_de i4_5 (by assumption) | exact n4_de i4_6 (by assumption) | exact n4_de i4_3 (by assumption) | exact n4_re (n4_wb (by assumption)) (by assumption) | exact n4_re (n4_wr (by assumption)) (by assumption)
theorem n4_buys {F : Nat} {sDr : MS} {sRo : MS} {p1 : Int32} {p2 : Int32} {p3 : Int32} {p4 : Int32} {sMn : MS} : N4 (fun x => x.2) (f_X10_buys F sDr sRo p1 p2 p3 p4 sMn) := by
  unfold f_X10_buys f_X10_buys_19
  repeat' (first | with_reducible refine n4_bd (fun _ _ => ?_) | with_reducible refine n4_if ?_ ?_ | with_reducible refine n4_lz ?_ | with_reducible refine n4_gd ?_ | with_reducible refine n4_some ?_)
  all_goals first | exact n4_ac (by assumption) | exact n4_fr (by assumption) | exact n4_al (by assumption) | exact n4_re i4_1 (by assumption) | exact n4_re i4_2 (by assumption) | exact n4_re i4_5 (by assumption) | exact n4_re i4_6 (by assumption) | exact n4_re i4_3 (by assumption) | exact n4_de i4_1 (by assumption) | exact n4_de i4_2 (by assumption) | exact n4_de i4_5 (by assumption) | exact n4_de i4_6 (by assumption) | exact n4_de i4_3 (by assumption) | exact n4_re (n4_wb (by assumption)) (by assumption) | exact n4_re (n4_wr (by assumption)) (by assumption)
theorem n4_byRule {F : Nat} {sRo : MS} {p1 : Int32} {sMn : MS} {sDr : MS} {sDw : MS} : N4 (fun x => x.2.2.1) (f_X10_byRule F sRo p1 sMn sDr sDw) := by
  unfold f_X10_byRule
  repeat' (first | with_reducible refine n4_bd (fun _ _ => ?_) | with_reducible refine n4_if ?_ ?_ | with_reducible refine n4_lz ?_ | with_reducible refine n4_gd ?_ | with_reducible refine n4_some ?_)
  all_goals first | exact n4_ac (by assumption) | exact n4_fr (by assumption) | exact n4_al (by assumption) | exact n4_re i4_1 (by assumption) | exact n4_re i4_2 (by assumption) | exact n4_re i4_5 (by assumption) | exact n4_re i4_6 (by assumption) | exact n4_re i4_3 (by assumption) | exact n4_de i4_1 (by assumption) | exact n4_de i4_2 (by assumption) | exact n4_de i4_5 (by assumption) | exact n4_de i4_6 (by assumption) | exact n4_de i4_3 (by assumption) | exact n4_re (n4_wb (by assumption)) (by assumption) | exact n4_re (n4_wr (by assumption)) (by assumption)
theorem n4_stuckAt {F : Nat} {sRo : MS} {p1 : Int32} {sMn : MS} {sDr : MS} {sDw : MS} : N4 (fun x => x.2.2.1) (f_X10_stuckAt F sRo p1 sMn sDr sDw) := by
  unfold f_X10_stuckAt
  repeat' (first | with_reducible refine n4_bd (fun _ _ => ?_) | with_reducible refine n4_if ?_ ?_ | with_reducible refine n4_lz ?_ | with_reducible refine n4_gd ?_ | with_reducible refine n4_some ?_)
  all_goals first | exact n4_ac (by assumption) | exact n4_fr (by assumption) | exact n4_al (by assumption) | exact n4_re i4_1 (by assumption) | exact n4_re i4_2 (by assumption) | exact n4_re i4_5 (by assumption) | exact n4_re i4_6 (by assumption) | exact n4_re i4_3 (by assumption) | exact n4_de i4_1 (by assumption) | exact n4_de i4_2 (by assumption) | exact n4_de i4_5 (by assumption) | exact n4_de i4_6 (by assumption) | exact n4_de i4_3 (by assumption) | exact n4_re (n4_wb (by assumption)) (by assumption) | exact n4_re (n4_wr (by assumption)) (by assumption)
theorem n4_odds {F : Nat} {nDc : Nat} {nDd : Nat} {sRo : MS} {p1 : Int32} {p2 : Int32} {sMn : MS} {sDr : MS} {fDc : (Nat → Int32)} {fDd : (Nat → Int32)} {sFr : MS} : N4 (fun x => x.2.2.1) (f_X10_odds F nDc nDd sRo p1 p2 sMn sDr fDc fDd sFr) := by
  unfold f_X10_odds
  repeat' (first | with_reducible refine n4_bd (fun _ _ => ?_) | with_reducible refine n4_if ?_ ?_ | with_reducible refine n4_lz ?_ | with_reducible refine n4_gd ?_ | with_reducible refine n4_some ?_)
  all_goals first | exact n4_ac (by assumption) | exact n4_fr (by assumption) | exact n4_al (by assumption) | exact n4_re i4_1 (by assumption) | exact n4_re i4_2 (by assumption) | exact n4_re i4_5 (by assumption) | exact n4_re i4_6 (by assumption) | exact n4_re i4_3 (by assumption) | exact n4_de i4_1 (by assumption) | exact n4_de i4_2 (by assumption) | exact n4_de i4_5 (by assumption) | exact n4_de i4_6 (by assumption) | exact n4_de i4_3 (by assumption) | exact n4_re (n4_wb (by assumption)) (by assumption) | exact n4_re (n4_wr (by assumption)) (by assumption)
theorem n4_mean {F : Nat} {nDc : Nat} {nDd : Nat} {sRo : MS} {p1 : Int32} {p2 : Int32} {sMn : MS} {sDr : MS} {fDc : (Nat → Int32)} {fDd : (Nat → Int32)} {sFr : MS} : N4 (fun x => x.2.2.1) (f_X10_mean F nDc nDd sRo p1 p2 sMn sDr fDc fDd sFr) := by
  unfold f_X10_mean
  repeat' (first | with_reducible refine n4_bd (fun _ _ => ?_) | with_reducible refine n4_if ?_ ?_ | with_reducible refine n4_lz ?_ | with_reducible refine n4_gd ?_ | with_reducible refine n4_some ?_)
  all_goals first | exact n4_ac (by assumption) | exact n4_fr (by assumption) | exact n4_al (by assumption) | exact n4_re i4_1 (by assumption) | exact n4_re i4_2 (by assumption) | exact n4_re i4_5 (by assumption) | exact n4_re i4_6 (by assumption) | exact n4_re i4_3 (by assumption) | exact n4_de i4_1 (by assumption) | exact n4_de i4_2 (by assumption) | exact n4_de i4_5 (by assumption) | exact n4_de i4_6 (by assumption) | exact n4_de i4_3 (by assumption) | exact n4_re (n4_wb (by assumption)) (by assumption) | exact n4_re (n4_wr (by assumption)) (by assumption)
theorem n4_bestRule {F : Nat} {nDc : Nat} {nDd : Nat} {sRo : MS} {sMn : MS} {sDr : MS} {fDc : (Nat → Int32)} {fDd : (Nat → Int32)} : N4 (fun x => x.2.2.1) (f_X10_bestRule F nDc nDd sRo sMn sDr fDc fDd) := by
  unfold f_X10_bestRule
  repeat' (first | with_reducible refine n4_bd (fun _ _ => ?_) | with_reducible refine n4_if ?_ ?_ | with_reducible refine n4_lz ?_ | with_reducible refine n4_gd ?_ | with_reducible refine n4_some ?_)
  all_goals first | exact n4_ac (by assumption) | exact n4_fr (by assumption) | exact n4_al (by assumption) | exact n4_re i4_1 (by assumption) | exact n4_re i4_2 (by assumption) | exact n4_re i4_5 (by assumption) | exact n4_re i4_6 (by assumption) | exact n4_re i4_3 (by assumption) | exact n4_de i4_1 (by assumption) | exact n4_de i4_2 (by assumption) | exact n4_de i4_5 (by assumption) | exact n4_de i4_6 (by assumption) | exact n4_de i4_3 (by assumption) | exact n4_re (n4_wb (by assumption)) (by assumption) | exact n4_re (n4_wr (by assumption)) (by assumption)
theorem n4_bestMean {F : Nat} {nDc : Nat} {nDd : Nat} {sRo : MS} {p1 : Int32} {sMn : MS} {sDr : MS} {fDc : (Nat → Int32)} {fDd : (Nat → Int32)} {sFr : MS} : N4 (fun x => x.2.2.1) (f_X10_bestMean F nDc nDd sRo p1 sMn sDr fDc fDd sFr) := by
  unfold f_X10_bestMean
  repeat' (first | with_reducible refine n4_bd (fun _ _ => ?_) | with_reducible refine n4_if ?_ ?_ | with_reducible refine n4_lz ?_ | with_reducible refine n4_gd ?_ | with_reducible refine n4_some ?_)
  all_goals first | exact n4_ac (by assumption) | exact n4_fr (by assumption) | exact n4_al (by assumption) | exact n4_re i4_1 (by assumption) | exact n4_re i4_2 (by assumption) | exact n4_re i4_5 (by assumption) | exact n4_re i4_6 (by assumption) | exact n4_re i4_3 (by assumption) | exact n4_de i4_1 (by assumption) | exact n4_de i4_2 (by assumption) | exact n4_de i4_5 (by assumption) | exact n4_de i4_6 (by assumption) | exact n4_de i4_3 (by assumption) | exact n4_re (n4_wb (by assumption)) (by assumption) | exact n4_re (n4_wr (by assumption)) (by assumption)
theorem n4_buy {F : Nat} {nDc : Nat} {nDd : Nat} {sRo : MS} {p1 : Int32} {p2 : Int32} {p3 : Int32} {sMn : MS} {sDr : MS} {fDc : (Nat → Int32)} {fDd : (Nat → Int32)} : N4 (fun x => x.2.2.1) (f_X10_buy F nDc nDd sRo p1 p2 p3 sMn sDr fDc fDd) := by
  unfold f_X10_buy
  repeat' (first | with_reducible refine n4_bd (fun _ _ => ?_) | with_reducible refine n4_if ?_ ?_ | with_reducible refine n4_lz ?_ | with_reducible refine n4_gd ?_ | with_reducible refine n4_some ?_)
  all_goals first | exact n4_ac (by assumption) | exact n4_fr (by assumption) | exact n4_al (by assumption) | exact n4_re i4_1 (by assumption) | exact n4_re i4_2 (by assumption) | exact n4_re i4_5 (by assumption) | exact n4_re i4_6 (by assumption) | exact n4_re i4_3 (by assumption) | exact n4_de i4_1 (by assumption) | exact n4_de i4_2 (by assumption) | exact n4_de i4_5 (by assumption) | exact n4_de i4_6 (by assumption) | exact n4_de i4_3 (by assumption) | exact n4_re (n4_wb (by assumption)) (by assumption) | exact n4_re (n4_wr (by assumption)) (by assumption)
theorem n4_sure {F : Nat} {nDc : Nat} {nDd : Nat} {sRo : MS} {p1 : Int32} {sMn : MS} {sDr : MS} {fDc : (Nat → Int32)} {fDd : (Nat → Int32)} {sFr : MS} : N4 (fun x => x.2.2.1) (f_X10_sure F nDc nDd sRo p1 sMn sDr fDc fDd sFr) := by
  unfold f_X10_sure
  repeat' (first | with_reducible refine n4_bd (fun _ _ => ?_) | with_reducible refine n4_if ?_ ?_ | with_reducible refine n4_lz ?_ | with_reducible refine n4_gd ?_ | with_reducible refine n4_some ?_)
  all_goals first | exact n4_ac (by assumption) | exact n4_fr (by assumption) | exact n4_al (by assumption) | exact n4_re i4_1 (by assumption) | exact n4_re i4_2 (by assumption) | exact n4_re i4_5 (by assumption) | exact n4_re i4_6 (by assumption) | exact n4_re i4_3 (by assumption) | exact n4_de i4_1 (by assumption) | exact n4_de i4_2 (by assumption) | exact n4_de i4_5 (by assumption) | exact n4_de i4_6 (by assumption) | exact n4_de i4_3 (by assumption) | exact n4_re (n4_wb (by assumption)) (by assumption) | exact n4_re (n4_wr (by assumption)) (by assumption)
theorem n4_net {F : Nat} {sRo : MS} {p1 : Int32} {sMn : MS} {sNe : MS} {sNc : MS} : N4 (fun x => x.2.1) (f_X10_net F sRo p1 sMn sNe sNc) := by
  unfold f_X10_net
  repeat' (first | with_reducible refine n4_bd (fun _ _ => ?_) | with_reducible refine n4_if ?_ ?_ | with_reducible refine n4_lz ?_ | with_reducible refine n4_gd ?_ | with_reducible refine n4_some ?_)
  all_goals first | exact n4_ac (by assumption) | exact n4_fr (by assumption) | exact n4_al (by assumption) | exact n4_re i4_1 (by assumption) | exact n4_re i4_2 (by assumption) | exact n4_re i4_5 (by assumption) | exact n4_re i4_6 (by assumption) | exact n4_re i4_3 (by assumption) | exact n4_de i4_1 (by assumption) | exact n4_de i4_2 (by assumption) | exact n4_de i4_5 (by assumption) | exact n4_de i4_6 (by assumption) | exact n4_de i4_3 (by assumption) | exact n4_re (n4_wb (by assumption)) (by assumption) | exact n4_re (n4_wr (by assumption)) (by assumption)
theorem n4_most {F : Nat} {sRo : MS} {p1 : Int32} {sMn : MS} {sNe : MS} : N4 (fun x => x.2.1) (f_X10_most F sRo p1 sMn sNe) := by
  unfold f_X10_most
  repeat' (first | with_reducible refine n4_bd (fun _ _ => ?_) | with_reducible refine n4_if ?_ ?_ | with_reducible refine n4_lz ?_ | with_reducible refine n4_gd ?_ | with_reducible refine n4_some ?_)
  all_goals first | exact n4_ac (by assumption) | exact n4_fr (by assumption) | exact n4_al (by assumption) | exact n4_re i4_1 (by assumption) | exact n4_re i4_2 (by assumption) | exact n4_re i4_5 (by assumption) | exact n4_re i4_6 (by assumption) | exact n4_re i4_3 (by assumption) | exact n4_de i4_1 (by assumption) | exact n4_de i4_2 (by assumption) | exact n4_de i4_5 (by assumption) | exact n4_de i4_6 (by assumption) | exact n4_de i4_3 (by assumption) | exact n4_re (n4_wb (by assumption)) (by assumption) | exact n4_re (n4_wr (by assumption)) (by assumption)
theorem n4_near {F : Nat} {sRo : MS} {p1 : Int32} {p2 : Int32} {sMn : MS} {sNe : MS} : N4 (fun x => x.2.1) (f_X10_near F sRo p1 p2 sMn sNe) := by
  unfold f_X10_near
  repeat' (first | with_reducible refine n4_bd (fun _ _ => ?_) | with_reducible refine n4_if ?_ ?_ | with_reducible refine n4_lz ?_ | with_reducible refine n4_gd ?_ | with_reducible refine n4_some ?_)
  all_goals first | exact n4_ac (by assumption) | exact n4_fr (by assumption) | exact n4_al (by assumption) | exact n4_re i4_1 (by assumption) | exact n4_re i4_2 (by assumption) | exact n4_re i4_5 (by assumption) | exact n4_re i4_6 (by assumption) | exact n4_re i4_3 (by assumption) | exact n4_de i4_1 (by assumption) | exact n4_de i4_2 (by assumption) | exact n4_de i4_5 (by assumption) | exact n4_de i4_6 (by assumption) | exact n4_de i4_3 (by assumption) | exact n4_re (n4_wb (by assumption)) (by assumption) | exact n4_re (n4_wr (by assumption)) (by assumption)
theorem n4_worth {F : Nat} {sRo : MS} {sMn : MS} {sPl : MS} {sPc : MS} {sNe : MS} {sNc : MS} : N4 (fun x => x.2.1) (f_X10_worth F sRo sMn sPl sPc sNe sNc) := by
  unfold f_X10_worth f_X10_worth_55 f_X10_worth_63
  repeat' (first | with_reducible refine n4_bd (fun _ _ => ?_) | with_reducible refine n4_if ?_ ?_ | with_reducible refine n4_lz ?_ | with_reducible refine n4_gd ?_ | with_reducible refine n4_some ?_)
  all_goals first | exact n4_ac (by assumption) | exact n4_fr (by assumption) | exact n4_al (by assumption) | exact n4_re i4_1 (by assumption) | exact n4_re i4_2 (by assumption) | exact n4_re i4_5 (by assumption) | exact n4_re i4_6 (by assumption) | exact n4_re i4_3 (by assumption) | exact n4_de i4_1 (by assumption) | exact n4_de i4_2 (by assumption) | exact n4_de i4_5 (by assumption) | exact n4_de i4_6 (by assumption) | exact n4_de i4_3 (by assumption) | exact n4_re (n4_wb (by assumption)) (by assumption) | exact n4_re (n4_wr (by assumption)) (by assumption)
theorem n4_far {F : Nat} {sRo : MS} {p1 : Int32} {p2 : Int32} {p3 : Int32} {sMn : MS} {sFr : MS} : N4 (fun x => x.2.1) (f_X10_far F sRo p1 p2 p3 sMn sFr) := by
  unfold f_X10_far f_X10_far_28
  repeat' (first | with_reducible refine n4_bd (fun _ _ => ?_) | with_reducible refine n4_if ?_ ?_ | with_reducible refine n4_lz ?_ | with_reducible refine n4_gd ?_ | with_reducible refine n4_some ?_)
  all_goals first | exact n4_ac (by assumption) | exact n4_fr (by assumption) | exact n4_al (by assumption) | exact n4_re i4_1 (by assumption) | exact n4_re i4_2 (by assumption) | exact n4_re i4_5 (by assumption) | exact n4_re i4_6 (by assumption) | exact n4_re i4_3 (by assumption) | exact n4_de i4_1 (by assumption) | exact n4_de i4_2 (by assumption) | exact n4_de i4_5 (by assumption) | exact n4_de i4_6 (by assumption) | exact n4_de i4_3 (by assumption) | exact n4_re (n4_wb (by assumption)) (by assumption) | exact n4_re (n4_wr (by assumption)) (by assumption)
theorem n4_loads {F : Nat} {sRo : MS} {p1 : Int32} {p2 : Int32} {sMn : MS} {sFr : MS} : N4 (fun x => x.2.1) (f_X10_loads F sRo p1 p2 sMn sFr) := by
  unfold f_X10_loads f_X10_loads_27
  repeat' (first | with_reducible refine n4_bd (fun _ _ => ?_) | with_reducible refine n4_if ?_ ?_ | with_reducible refine n4_lz ?_ | with_reducible refine n4_gd ?_ | with_reducible refine n4_some ?_)
  all_goals first | exact n4_ac (by assumption) | exact n4_fr (by assumption) | exact n4_al (by assumption) | exact n4_re i4_1 (by assumption) | exact n4_re i4_2 (by assumption) | exact n4_re i4_5 (by assumption) | exact n4_re i4_6 (by assumption) | exact n4_re i4_3 (by assumption) | exact n4_de i4_1 (by assumption) | exact n4_de i4_2 (by assumption) | exact n4_de i4_5 (by assumption) | exact n4_de i4_6 (by assumption) | exact n4_de i4_3 (by assumption) | exact n4_re (n4_wb (by assumption)) (by assumption) | exact n4_re (n4_wr (by assumption)) (by assumption)
theorem n4_depot {F : Nat} {sRo : MS} {p1 : Int32} {p2 : Int32} {p3 : Int32} {p4 : Int32} {sMn : MS} {sFr : MS} : N4 (fun x => x.2.1) (f_X10_depot F sRo p1 p2 p3 p4 sMn sFr) := by
  unfold f_X10_depot f_X10_depot_28 f_X10_depot_45
  repeat' (first | with_reducible refine n4_bd (fun _ _ => ?_) | with_reducible refine n4_if ?_ ?_ | with_reducible refine n4_lz ?_ | with_reducible refine n4_gd ?_ | with_reducible refine n4_some ?_)
  all_goals first | exact n4_ac (by assumption) | exact n4_fr (by assumption) | exact n4_al (by assumption) | exact n4_re i4_1 (by assumption) | exact n4_re i4_2 (by assumption) | exact n4_re i4_5 (by assumption) | exact n4_re i4_6 (by assumption) | exact n4_re i4_3 (by assumption) | exact n4_de i4_1 (by assumption) | exact n4_de i4_2 (by assumption) | exact n4_de i4_5 (by assumption) | exact n4_de i4_6 (by assumption) | exact n4_de i4_3 (by assumption) | exact n4_re (n4_wb (by assumption)) (by assumption) | exact n4_re (n4_wr (by assumption)) (by assumption)
theorem n4_convoy_46 {F : Nat} {sRo : MS} {p1 : Int32} {p2 : Int32} : ∀ (n : Nat) (y0 : Int32) (y1 : MS) (y2 : MS), N4 (fun x => x.2.1) (f_X10_convoy_46 F sRo p1 p2 n y0 y1 y2) := by
  intro n
  induction n with
  | zero =>
    intro y0 y1 y2
    exact n4_none
  | succ n ih =>
    intro y0 y1 y2
    rw [f_X10_convoy_46]
    unfold f_X10_convoy_74
    repeat' (first | with_reducible refine n4_bd (fun _ _ => ?_) | with_reducible refine n4_if ?_ ?_ | with_reducible refine n4_lz ?_ | with_reducible refine n4_gd ?_ | with_reducible refine n4_some ?_ | exact ih _ _ _)
    all_goals first | exact n4_ac (by assumption) | exact n4_fr (by assumption)
theorem n4_convoy {F : Nat} {sRo : MS} {p1 : Int32} {p2 : Int32} {sMn : MS} {sFr : MS} : N4 (fun x => x.2.1) (f_X10_convoy F sRo p1 p2 sMn sFr) := by
  unfold f_X10_convoy f_X10_convoy_28
  repeat' (first | with_reducible refine n4_bd (fun _ _ => ?_) | with_reducible refine n4_if ?_ ?_ | with_reducible refine n4_lz ?_ | with_reducible refine n4_gd ?_ | with_reducible refine n4_some ?_ | exact n4_convoy_46 _ _ _ _)
  all_goals first | exact n4_ac (by assumption) | exact n4_fr (by assumption) | exact n4_al (by assumption) | exact n4_re i4_1 (by assumption) | exact n4_re i4_2 (by assumption) | exact n4_re i4_5 (by assumption) | exact n4_re i4_6 (by assumption) | exact n4_re i4_3 (by assumption) | exact n4_de i4_1 (by assumption) | exact n4_de i4_2 (by assumption) | exact n4_de i4_5 (by assumption) | exact n4_de i4_6 (by assumption) | exact n4_de i4_3 (by assumption) | exact n4_re (n4_wb (by assumption)) (by assumption) | exact n4_re (n4_wr (by assumption)) (by assumption)
theorem n4_fits {F : Nat} {sRo : MS} {sMn : MS} {sRe : MS} : N4 (fun x => x.2.1) (f_X10_fits F sRo sMn sRe) := by
  unfold f_X10_fits
  repeat' (first | with_reducible refine n4_bd (fun _ _ => ?_) | with_reducible refine n4_if ?_ ?_ | with_reducible refine n4_lz ?_ | with_reducible refine n4_gd ?_ | with_reducible refine n4_some ?_)
  all_goals first | exact n4_ac (by assumption) | exact n4_fr (by assumption) | exact n4_al (by assumption) | exact n4_re i4_1 (by assumption) | exact n4_re i4_2 (by assumption) | exact n4_re i4_5 (by assumption) | exact n4_re i4_6 (by assumption) | exact n4_re i4_3 (by assumption) | exact n4_de i4_1 (by assumption) | exact n4_de i4_2 (by assumption) | exact n4_de i4_5 (by assumption) | exact n4_de i4_6 (by assumption) | exact n4_de i4_3 (by assumption) | exact n4_re (n4_wb (by assumption)) (by assumption) | exact n4_re (n4_wr (by assumption)) (by assumption)
theorem n4_fit {F : Nat} {sRo : MS} {p1 : Int32} {p2 : Int32} {sMn : MS} {sRe : MS} : N4 (fun x => x.2.1) (f_X10_fit F sRo p1 p2 sMn sRe) := by
  unfold f_X10_fit f_X10_fit_14 f_X10_fit_58
  repeat' (first | with_reducible refine n4_bd (fun _ _ => ?_) | with_reducible refine n4_if ?_ ?_ | with_reducible refine n4_lz ?_ | with_reducible refine n4_gd ?_ | with_reducible refine n4_some ?_)
  all_goals first | exact n4_ac (by assumption) | exact n4_fr (by assumption) | exact n4_al (by assumption) | exact n4_re i4_1 (by assumption) | exact n4_re i4_2 (by assumption) | exact n4_re i4_5 (by assumption) | exact n4_re i4_6 (by assumption) | exact n4_re i4_3 (by assumption) | exact n4_de i4_1 (by assumption) | exact n4_de i4_2 (by assumption) | exact n4_de i4_5 (by assumption) | exact n4_de i4_6 (by assumption) | exact n4_de i4_3 (by assumption) | exact n4_re (n4_wb (by assumption)) (by assumption) | exact n4_re (n4_wr (by assumption)) (by assumption)
theorem n4_went {F : Nat} {sRo : MS} {p1 : Int32} {sMn : MS} {sRe : MS} : N4 (fun x => x.2.1) (f_X10_went F sRo p1 sMn sRe) := by
  unfold f_X10_went f_X10_went_50
  repeat' (first | with_reducible refine n4_bd (fun _ _ => ?_) | with_reducible refine n4_if ?_ ?_ | with_reducible refine n4_lz ?_ | with_reducible refine n4_gd ?_ | with_reducible refine n4_some ?_)
  all_goals first | exact n4_ac (by assumption) | exact n4_fr (by assumption) | exact n4_al (by assumption) | exact n4_re i4_1 (by assumption) | exact n4_re i4_2 (by assumption) | exact n4_re i4_5 (by assumption) | exact n4_re i4_6 (by assumption) | exact n4_re i4_3 (by assumption) | exact n4_de i4_1 (by assumption) | exact n4_de i4_2 (by assumption) | exact n4_de i4_5 (by assumption) | exact n4_de i4_6 (by assumption) | exact n4_de i4_3 (by assumption) | exact n4_re (n4_wb (by assumption)) (by assumption) | exact n4_re (n4_wr (by assumption)) (by assumption)
theorem n4_needle {F : Nat} {sRo : MS} {p1 : Int32} {sMn : MS} {sRe : MS} : N4 (fun x => x.2.1) (f_X10_needle F sRo p1 sMn sRe) := by
  unfold f_X10_needle f_X10_needle_68
  repeat' (first | with_reducible refine n4_bd (fun _ _ => ?_) | with_reducible refine n4_if ?_ ?_ | with_reducible refine n4_lz ?_ | with_reducible refine n4_gd ?_ | with_reducible refine n4_some ?_)
  all_goals first | exact n4_ac (by assumption) | exact n4_fr (by assumption) | exact n4_al (by assumption) | exact n4_re i4_1 (by assumption) | exact n4_re i4_2 (by assumption) | exact n4_re i4_5 (by assumption) | exact n4_re i4_6 (by assumption) | exact n4_re i4_3 (by assumption) | exact n4_de i4_1 (by assumption) | exact n4_de i4_2 (by assumption) | exact n4_de i4_5 (by assumption) | exact n4_de i4_6 (by assumption) | exact n4_de i4_3 (by assumption) | exact n4_re (n4_wb (by assumption)) (by assumption) | exact n4_re (n4_wr (by assumption)) (by assumption)
theorem n4_run {F : Nat} {sRo : MS} {p1 : Int32} {p2 : Int32} {sMn : MS} {sDr : MS} {sDw : MS} : N4 (fun x => x.2.2.1) (f_X10_run F sRo p1 p2 sMn sDr sDw) := by
  unfold f_X10_run
  repeat' (first | with_reducible refine n4_bd (fun _ _ => ?_) | with_reducible refine n4_if ?_ ?_ | with_reducible refine n4_lz ?_ | with_reducible refine n4_gd ?_ | with_reducible refine n4_some ?_)
  all_goals first | exact n4_ac (by assumption) | exact n4_fr (by assumption) | exact n4_al (by assumption) | exact n4_re i4_1 (by assumption) | exact n4_re i4_2 (by assumption) | exact n4_re i4_5 (by assumption) | exact n4_re i4_6 (by assumption) | exact n4_re i4_3 (by assumption) | exact n4_de i4_1 (by assumption) | exact n4_de i4_2 (by assumption) | exact n4_de i4_5 (by assumption) | exact n4_de i4_6 (by assumption) | exact n4_de i4_3 (by assumption) | exact n4_re (n4_wb (by assumption)) (by assumption) | exact n4_re (n4_wr (by assumption)) (by assumption)
theorem n4_through_27 {F : Nat} {sRo : MS} {p1 : Int32} {p2 : Int32} {p3 : Int32} : ∀ (n : Nat) (y0 : Int32) (y1 : Int32) (y2 : MS) (y3 : MS) (y4 : MS), N4 (fun x => x.2.2.1) (f_X10_through_27 F sRo p1 p2 p3 n y0 y1 y2 y3 y4) := by
  intro n
  induction n with
  | zero =>
    intro y0 y1 y2 y3 y4
    exact n4_none
  | succ n ih =>
    intro y0 y1 y2 y3 y4
    rw [f_X10_through_27]
    unfold f_X10_through_67 f_X10_through_61
    repeat' (first | with_reducible refine n4_bd (fun _ _ => ?_) | with_reducible refine n4_if ?_ ?_ | with_reducible refine n4_lz ?_ | with_reducible refine n4_gd ?_ | with_reducible refine n4_some ?_ | exact ih _ _ _ _ _)
    all_goals first | exact n4_ac (by assumption) | exact n4_fr (by assumption)
theorem n4_through {F : Nat} {sRo : MS} {p1 : Int32} {p2 : Int32} {p3 : Int32} {sMn : MS} {sDr : MS} {sDw : MS} : N4 (fun x => x.2.2.1) (f_X10_through F sRo p1 p2 p3 sMn sDr sDw) := by
  unfold f_X10_through
  repeat' (first | with_reducible refine n4_bd (fun _ _ => ?_) | with_reducible refine n4_if ?_ ?_ | with_reducible refine n4_lz ?_ | with_reducible refine n4_gd ?_ | with_reducible refine n4_some ?_ | exact n4_through_27 _ _ _ _ _ _)
  all_goals first | exact n4_ac (by assumption) | exact n4_fr (by assumption) | exact n4_al (by assumption) | exact n4_re i4_1 (by assumption) | exact n4_re i4_2 (by assumption) | exact n4_re i4_5 (by assumption) | exact n4_re i4_6 (by assumption) | exact n4_re i4_3 (by assumption) | exact n4_de i4_1 (by assumption) | exact n4_de i4_2 (by assumption) | exact n4_de i4_5 (by assumption) | exact n4_de i4_6 (by assumption) | exact n4_de i4_3 (by assumption) | exact n4_re (n4_wb (by assumption)) (by assumption) | exact n4_re (n4_wr (by assumption)) (by assumption)
theorem n4_beats_39 {F : Nat} {sRo : MS} {p1 : Int32} {p2 : Int32} {p3 : Int32} {p4 : Int32} : ∀ (n : Nat) (y0 : Int32) (y1 : Int32) (y2 : MS) (y3 : MS) (y4 : MS), N4 (fun x => x.2.2.1) (f_X10_beats_39 F sRo p1 p2 p3 p4 n y0 y1 y2 y3 y4) := by
  intro n
  induction n with
  | zero =>
    intro y0 y1 y2 y3 y4
    exact n4_none
  | succ n ih =>
    intro y0 y1 y2 y3 y4
    rw [f_X10_beats_39]
    unfold f_X10_beats_120 f_X10_beats_111 f_X10_beats_114
    repeat' (first | with_reducible refine n4_bd (fun _ _ => ?_) | with_reducible refine n4_if ?_ ?_ | with_reducible refine n4_lz ?_ | with_reducible refine n4_gd ?_ | with_reducible refine n4_some ?_ | exact ih _ _ _ _ _)
    all_goals first | exact n4_ac (by assumption) | exact n4_fr (by assumption)
theorem n4_beats {F : Nat} {sRo : MS} {p1 : Int32} {p2 : Int32} {p3 : Int32} {p4 : Int32} {sMn : MS} {sDr : MS} {sDw : MS} : N4 (fun x => x.2.2.1) (f_X10_beats F sRo p1 p2 p3 p4 sMn sDr sDw) := by
  unfold f_X10_beats f_X10_beats_19
  repeat' (first | with_reducible refine n4_bd (fun _ _ => ?_) | with_reducible refine n4_if ?_ ?_ | with_reducible refine n4_lz ?_ | with_reducible refine n4_gd ?_ | with_reducible refine n4_some ?_ | exact n4_beats_39 _ _ _ _ _ _)
  all_goals first | exact n4_ac (by assumption) | exact n4_fr (by assumption) | exact n4_al (by assumption) | exact n4_re i4_1 (by assumption) | exact n4_re i4_2 (by assumption) | exact n4_re i4_5 (by assumption) | exact n4_re i4_6 (by assumption) | exact n4_re i4_3 (by assumption) | exact n4_de i4_1 (by assumption) | exact n4_de i4_2 (by assumption) | exact n4_de i4_5 (by assumption) | exact n4_de i4_6 (by assumption) | exact n4_de i4_3 (by assumption) | exact n4_re (n4_wb (by assumption)) (by assumption) | exact n4_re (n4_wr (by assumption)) (by assumption)
theorem n4_car {F : Nat} {sJo : MS} {sRo : MS} {p1 : Int32} {sMn : MS} : N4 (fun x => x.2) (f_X10_car F sJo sRo p1 sMn) := by
  unfold f_X10_car f_X10_car_19
  repeat' (first | with_reducible refine n4_bd (fun _ _ => ?_) | with_reducible refine n4_if ?_ ?_ | with_reducible refine n4_lz ?_ | with_reducible refine n4_gd ?_ | with_reducible refine n4_some ?_)
  all_goals first | exact n4_ac (by assumption) | exact n4_fr (by assumption) | exact n4_al (by assumption) | exact n4_re i4_1 (by assumption) | exact n4_re i4_2 (by assumption) | exact n4_re i4_5 (by assumption) | exact n4_re i4_6 (by assumption) | exact n4_re i4_3 (by assumption) | exact n4_de i4_1 (by assumption) | exact n4_de i4_2 (by assumption) | exact n4_de i4_5 (by assumption) | exact n4_de i4_6 (by assumption) | exact n4_de i4_3 (by assumption) | exact n4_re (n4_wb (by assumption)) (by assumption) | exact n4_re (n4_wr (by assumption)) (by assumption)
theorem n4_fill {F : Nat} {sRo : MS} {p1 : Int32} {sMn : MS} {sJo : MS} {sJk : MS} : N4 (fun x => x.2.1) (f_X10_fill F sRo p1 sMn sJo sJk) := by
  unfold f_X10_fill f_X10_fill_63
  repeat' (first | with_reducible refine n4_bd (fun _ _ => ?_) | with_reducible refine n4_if ?_ ?_ | with_reducible refine n4_lz ?_ | with_reducible refine n4_gd ?_ | with_reducible refine n4_some ?_)
  all_goals first | exact n4_ac (by assumption) | exact n4_fr (by assumption) | exact n4_al (by assumption) | exact n4_re i4_1 (by assumption) | exact n4_re i4_2 (by assumption) | exact n4_re i4_5 (by assumption) | exact n4_re i4_6 (by assumption) | exact n4_re i4_3 (by assumption) | exact n4_de i4_1 (by assumption) | exact n4_de i4_2 (by assumption) | exact n4_de i4_5 (by assumption) | exact n4_de i4_6 (by assumption) | exact n4_de i4_3 (by assumption) | exact n4_re (n4_wb (by assumption)) (by assumption) | exact n4_re (n4_wr (by assumption)) (by assumption)
theorem n4_drive {F : Nat} {sRo : MS} {p1 : Int32} {sMn : MS} {sJo : MS} {sJk : MS} {sJw : MS} : N4 (fun x => x.2.1) (f_X10_drive F sRo p1 sMn sJo sJk sJw) := by
  unfold f_X10_drive
  repeat' (first | with_reducible refine n4_bd (fun _ _ => ?_) | with_reducible refine n4_if ?_ ?_ | with_reducible refine n4_lz ?_ | with_reducible refine n4_gd ?_ | with_reducible refine n4_some ?_)
  all_goals first | exact n4_ac (by assumption) | exact n4_fr (by assumption) | exact n4_al (by assumption) | exact n4_re i4_1 (by assumption) | exact n4_re i4_2 (by assumption) | exact n4_re i4_5 (by assumption) | exact n4_re i4_6 (by assumption) | exact n4_re i4_3 (by assumption) | exact n4_de i4_1 (by assumption) | exact n4_de i4_2 (by assumption) | exact n4_de i4_5 (by assumption) | exact n4_de i4_6 (by assumption) | exact n4_de i4_3 (by assumption) | exact n4_re (n4_wb (by assumption)) (by assumption) | exact n4_re (n4_wr (by assumption)) (by assumption)
theorem n4_waits {F : Nat} {sRo : MS} {sMn : MS} {sJo : MS} {sJk : MS} {sJw : MS} : N4 (fun x => x.2.2.1) (f_X10_waits F sRo sMn sJo sJk sJw) := by
  unfold f_X10_waits
  repeat' (first | with_reducible refine n4_bd (fun _ _ => ?_) | with_reducible refine n4_if ?_ ?_ | with_reducible refine n4_lz ?_ | with_reducible refine n4_gd ?_ | with_reducible refine n4_some ?_)
  all_goals first | exact n4_ac (by assumption) | exact n4_fr (by assumption) | exact n4_al (by assumption) | exact n4_re i4_1 (by assumption) | exact n4_re i4_2 (by assumption) | exact n4_re i4_5 (by assumption) | exact n4_re i4_6 (by assumption) | exact n4_re i4_3 (by assumption) | exact n4_de i4_1 (by assumption) | exact n4_de i4_2 (by assumption) | exact n4_de i4_5 (by assumption) | exact n4_de i4_6 (by assumption) | exact n4_de i4_3 (by assumption) | exact n4_re (n4_wb (by assumption)) (by assumption) | exact n4_re (n4_wr (by assumption)) (by assumption)
theorem n4_seed {F : Nat} {sRo : MS} {p1 : Int32} {sMn : MS} {sJo : MS} : N4 (fun x => x.2.1) (f_X10_seed F sRo p1 sMn sJo) := by
  unfold f_X10_seed
  repeat' (first | with_reducible refine n4_bd (fun _ _ => ?_) | with_reducible refine n4_if ?_ ?_ | with_reducible refine n4_lz ?_ | with_reducible refine n4_gd ?_ | with_reducible refine n4_some ?_)
  all_goals first | exact n4_ac (by assumption) | exact n4_fr (by assumption) | exact n4_al (by assumption) | exact n4_re i4_1 (by assumption) | exact n4_re i4_2 (by assumption) | exact n4_re i4_5 (by assumption) | exact n4_re i4_6 (by assumption) | exact n4_re i4_3 (by assumption) | exact n4_de i4_1 (by assumption) | exact n4_de i4_2 (by assumption) | exact n4_de i4_5 (by assumption) | exact n4_de i4_6 (by assumption) | exact n4_de i4_3 (by assumption) | exact n4_re (n4_wb (by assumption)) (by assumption) | exact n4_re (n4_wr (by assumption)) (by assumption)
theorem n4_undo {F : Nat} {sJk : MS} {sMn : MS} {sJo : MS} : N4 (fun x => x.2.1) (f_X10_undo F sJk sMn sJo) := by
  unfold f_X10_undo
  repeat' (first | with_reducible refine n4_bd (fun _ _ => ?_) | with_reducible refine n4_if ?_ ?_ | with_reducible refine n4_lz ?_ | with_reducible refine n4_gd ?_ | with_reducible refine n4_some ?_)
  all_goals first | exact n4_ac (by assumption) | exact n4_fr (by assumption) | exact n4_al (by assumption) | exact n4_re i4_1 (by assumption) | exact n4_re i4_2 (by assumption) | exact n4_re i4_5 (by assumption) | exact n4_re i4_6 (by assumption) | exact n4_re i4_3 (by assumption) | exact n4_de i4_1 (by assumption) | exact n4_de i4_2 (by assumption) | exact n4_de i4_5 (by assumption) | exact n4_de i4_6 (by assumption) | exact n4_de i4_3 (by assumption) | exact n4_re (n4_wb (by assumption)) (by assumption) | exact n4_re (n4_wr (by assumption)) (by assumption)
theorem n4_image {F : Nat} {sRo : MS} {sMn : MS} {sJo : MS} {sJi : MS} : N4 (fun x => x.2.1) (f_X10_image F sRo sMn sJo sJi) := by
  unfold f_X10_image
  repeat' (first | with_reducible refine n4_bd (fun _ _ => ?_) | with_reducible refine n4_if ?_ ?_ | with_reducible refine n4_lz ?_ | with_reducible refine n4_gd ?_ | with_reducible refine n4_some ?_)
  all_goals first | exact n4_ac (by assumption) | exact n4_fr (by assumption) | exact n4_al (by assumption) | exact n4_re i4_1 (by assumption) | exact n4_re i4_2 (by assumption) | exact n4_re i4_5 (by assumption) | exact n4_re i4_6 (by assumption) | exact n4_re i4_3 (by assumption) | exact n4_de i4_1 (by assumption) | exact n4_de i4_2 (by assumption) | exact n4_de i4_5 (by assumption) | exact n4_de i4_6 (by assumption) | exact n4_de i4_3 (by assumption) | exact n4_re (n4_wb (by assumption)) (by assumption) | exact n4_re (n4_wr (by assumption)) (by assumption)
theorem n4_back {F : Nat} {sJi : MS} {p1 : Int32} {sMn : MS} {sJo : MS} : N4 (fun x => x.2.1) (f_X10_back F sJi p1 sMn sJo) := by
  unfold f_X10_back f_X10_back_15
  repeat' (first | with_reducible refine n4_bd (fun _ _ => ?_) | with_reducible refine n4_if ?_ ?_ | with_reducible refine n4_lz ?_ | with_reducible refine n4_gd ?_ | with_reducible refine n4_some ?_)
  all_goals first | exact n4_ac (by assumption) | exact n4_fr (by assumption) | exact n4_al (by assumption) | exact n4_re i4_1 (by assumption) | exact n4_re i4_2 (by assumption) | exact n4_re i4_5 (by assumption) | exact n4_re i4_6 (by assumption) | exact n4_re i4_3 (by assumption) | exact n4_de i4_1 (by assumption) | exact n4_de i4_2 (by assumption) | exact n4_de i4_5 (by assumption) | exact n4_de i4_6 (by assumption) | exact n4_de i4_3 (by assumption) | exact n4_re (n4_wb (by assumption)) (by assumption) | exact n4_re (n4_wr (by assumption)) (by assumption)
