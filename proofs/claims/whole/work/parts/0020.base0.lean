/-! ===== own base: states, guards, names, calls ===== -/
abbrev MS : Type := (Nat → Int32) × (Nat → Int64) × (Nat → Nat → Int32) × (Nat → Nat → Int64)
def uN {α : Type} (f : Nat → α) (k : Nat) (v : α) : Nat → α := fun j => cond (Nat.beq j k) v (f j)
def sI (s : MS) (k : Nat) (v : Int32) : MS := (uN s.1 k v, s.2)
def sL (s : MS) (k : Nat) (v : Int64) : MS := (s.1, uN s.2.1 k v, s.2.2)
def wA (s : MS) (a : Nat) (f : Nat → Int32) : MS := (s.1, s.2.1, uN s.2.2.1 a f, s.2.2.2)
def wB (s : MS) (a : Nat) (f : Nat → Int64) : MS := (s.1, s.2.1, s.2.2.1, uN s.2.2.2 a f)
def sA (s : MS) (a i : Nat) (v : Int32) : MS := wA s a (upd (s.2.2.1 a) i v)
def sB (s : MS) (a i : Nat) (v : Int64) : MS := wB s a (vp_updL (s.2.2.2 a) i v)
def lz {α β : Type} (e : α) (k : α → Option β) : Option β := k e
theorem lz_s {α β : Type} {e : α} {k : α → Option β} {r : β} (h : lz e k = some r) (v : α) (hv : v = e) : k v = some r := by rw [hv]; exact h
def gd {α : Type} (b : Bool) (k : Option α) : Option α := cond b k none
theorem gd_s {α : Type} {b : Bool} {k : Option α} {r : α} (h : gd b k = some r) : b = true ∧ k = some r := by
  cases b with
  | false => cases h
  | true => exact ⟨rfl, h⟩
def bd {α β : Type} (o : Option α) (k : α → Option β) : Option β := match o with
  | none => none
  | some x => k x
theorem bd_s {α β : Type} {o : Option α} {k : α → Option β} {r : β} (h : bd o k = some r) : ∃ x, o = some x ∧ k x = some r := by
  cases o with
  | none => cases h
  | some x => exact ⟨x, rfl, h⟩
theorem it_t {α : Type} {c : Prop} [Decidable c] {a b r : α} (h : (if c then a else b) = r) (hc : c) : a = r := by rw [if_pos hc] at h; exact h
theorem it_f {α : Type} {c : Prop} [Decidable c] {a b r : α} (h : (if c then a else b) = r) (hc : ¬ c) : b = r := by rw [if_neg hc] at h; exact h
def vpb (i : Int32) (n : Nat) : Bool := decide (0 ≤ i) && decide (i.toNatClampNeg < n)
theorem vpb_in {i : Int32} {n : Nat} (h : vpb i n = true) : vp_in i n := by
  have h2 : (decide (0 ≤ i) && decide (i.toNatClampNeg < n)) = true := h
  rw [Bool.and_eq_true, decide_eq_true_eq, decide_eq_true_eq] at h2
  intro q
  rcases q with q | q
  · have h3 : (0 : Int32).toInt ≤ i.toInt := Int32.le_iff_toInt_le.mp h2.1
    have h4 : i.toInt < (0 : Int32).toInt := Int32.lt_iff_toInt_lt.mp q
    omega
  · omega
theorem vpb_of {i : Int32} {n : Nat} (h : vp_in i n) : vpb i n = true := by
  show (decide (0 ≤ i) && decide (i.toNatClampNeg < n)) = true
  rw [Bool.and_eq_true, decide_eq_true_eq, decide_eq_true_eq]
  refine ⟨?_, ?_⟩
  · rw [Int32.le_iff_toInt_le]
    have h3 : ¬ i < 0 := fun q => h (Or.inl q)
    rw [Int32.lt_iff_toInt_lt] at h3
    omega
  · exact Nat.not_le.mp (fun q => h (Or.inr q))
def nzb (x : Int32) : Bool := !(x == 0)
theorem nzb_s {x : Int32} (h : nzb x = true) : ¬ x = 0 := by
  intro e
  subst e
  exact absurd h (by decide)
def nzl (x : Int64) : Bool := !(x == 0)
theorem nzl_s {x : Int64} (h : nzl x = true) : ¬ x = 0 := by
  intro e
  subst e
  exact absurd h (by decide)
def bob (x : Int32) : Bool := x == 0 || x == 1
theorem bob_s {x : Int32} (h : bob x = true) : narrow .boolean (.int x) = .int x := by
  have h2 : (x == 0 || x == 1) = true := h
  rw [Bool.or_eq_true, beq_iff_eq, beq_iff_eq] at h2
  rcases h2 with rfl | rfl <;> rfl
theorem pr1 {α β : Type} {a : α} {b : β} {r : α × β} (h : (a, b) = r) : a = r.1 := by rw [← h]
theorem pr2 {α β : Type} {a : α} {b : β} {r : α × β} (h : (a, b) = r) : b = r.2 := by rw [← h]
def lenZ : List Nat := [3, 5, 4, 4, 3, 7, 4, 3, 4, 5, 5, 7, 5, 2, 4]
def bytZ : List (List Int32) := [[99, 97, 114], [112, 108, 97, 99, 101], [114, 111, 97, 100], [112, 117, 109, 112], [119, 97, 121], [114, 101, 99, 101, 105, 112, 116], [116, 97, 110, 107], [104, 97, 115], [115, 116, 111, 112], [115, 116, 117, 99, 107], [116, 97, 107, 101, 115], [109, 105, 110, 117, 116, 101, 115], [112, 114, 105, 99, 101], [111, 114], [115, 104, 117, 116]]
def chZ (i k : Nat) : Int32 := (((bytZ.getD i []).getD k 0 &&& 255).toUInt32 % 65536).toInt32
