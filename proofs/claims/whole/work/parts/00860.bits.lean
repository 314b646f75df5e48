/-! bits -/
def b64 (u : Int64) (x : Nat) : Bool := u.toBitVec.getLsbD x
def b32 (u : Int32) (x : Nat) : Bool := u.toBitVec.getLsbD x
theorem sh64 : ∀ t, t < 41 → (((Int32.ofInt ((t : Nat) : Int)).toInt64 &&& 63).toBitVec.smod 64).toNat = t := by decide
theorem sh32 : ∀ t, t < 9 → ((Int32.ofInt ((t : Nat) : Int) &&& 31).toBitVec.smod 32).toNat = t := by decide
theorem b64_or (u v : Int64) (x : Nat) : b64 (u ||| v) x = (b64 u x || b64 v x) := by
  unfold b64
  rw [Int64.toBitVec_or, BitVec.getLsbD_or]
theorem b64_and (u v : Int64) (x : Nat) : b64 (u &&& v) x = (b64 u x && b64 v x) := by
  unfold b64
  rw [Int64.toBitVec_and, BitVec.getLsbD_and]
theorem b64_shl (u : Int64) {t : Nat} (ht : t < 41) (x : Nat) : b64 (u <<< ((Int32.ofInt (t : Int)).toInt64 &&& 63)) x = (decide (x < 64) && !decide (x < t) && b64 u (x - t)) := by
  unfold b64
  rw [Int64.toBitVec_shiftLeft, BitVec.getLsbD_shiftLeft', sh64 t ht]
theorem b64_shr (u : Int64) {t : Nat} (ht : t < 41) (x : Nat) : b64 (u >>> ((Int32.ofInt (t : Int)).toInt64 &&& 63)) x = (!decide (64 ≤ x) && if t + x < 64 then b64 u (t + x) else b64 u 63) := by
  unfold b64
  rw [Int64.toBitVec_shiftRight, BitVec.getLsbD_sshiftRight', sh64 t ht]
  rfl
theorem b64_0 (x : Nat) : b64 0 x = false := by
  unfold b64
  show (0#64).getLsbD x = false
  simp
theorem allM : ∀ T, T < 41 → ∀ x, x < 64 → b64 (((1 : Int64) <<< ((Int32.ofInt (((T : Nat) : Int) + 1)).toInt64 &&& 63)) - 1) x = decide (x ≤ T) := by decide +kernel
theorem one64 (v : Int64) : v &&& 1 = if b64 v 0 = true then 1 else 0 := by
  rw [← Int64.toBitVec_inj, Int64.toBitVec_and]
  show v.toBitVec &&& 1#64 = _
  rw [BitVec.and_one_eq_setWidth_ofBool_getLsbD]
  unfold b64
  cases v.toBitVec.getLsbD 0 <;> rfl
theorem one32 (v : Int32) : v &&& 1 = if b32 v 0 = true then 1 else 0 := by
  rw [← Int32.toBitVec_inj, Int32.toBitVec_and]
  show v.toBitVec &&& 1#32 = _
  rw [BitVec.and_one_eq_setWidth_ofBool_getLsbD]
  unfold b32
  cases v.toBitVec.getLsbD 0 <;> rfl
theorem b32_or (u v : Int32) (x : Nat) : b32 (u ||| v) x = (b32 u x || b32 v x) := by
  unfold b32
  rw [Int32.toBitVec_or, BitVec.getLsbD_or]
theorem b32_shr (u : Int32) {t : Nat} (ht : t < 9) : b32 (u >>> (Int32.ofInt (t : Int) &&& 31)) 0 = b32 u t := by
  unfold b32
  rw [Int32.toBitVec_shiftRight, BitVec.getLsbD_sshiftRight', sh32 t ht]
  simp
  omega
theorem b32_one : ∀ t, t < 9 → ∀ x, x < 32 → b32 ((1 : Int32) <<< (Int32.ofInt ((t : Nat) : Int) &&& 31)) x = decide (x = t) := by decide
theorem test32 (u : Int32) {t : Nat} (ht : t < 9) : ((u >>> (Int32.ofInt (t : Int) &&& 31)) &&& 1) = if b32 u t = true then 1 else 0 := by
  rw [one32, b32_shr u ht]
theorem hasBit_e {F : Nat} (u : Int32) {t : Nat} (ht : t < 9) : f_X11_hasBit F u (Int32.ofInt (t : Int)) = some (if b32 u t = true then 1 else 0) := by
  unfold f_X11_hasBit
  rw [test32 u ht]
  cases b32 u t <;> rfl
theorem and511 {u : Int32} (h : ∀ k, 9 ≤ k → b32 u k = false) : (511 : Int32) &&& u = u := by
  rw [← Int32.toBitVec_inj, Int32.toBitVec_and]
  apply BitVec.eq_of_getLsbD_eq
  intro i hi
  rw [BitVec.getLsbD_and]
  by_cases c : i < 9
  · have : (511 : Int32).toBitVec.getLsbD i = true := by
      have : ∀ i, i < 9 → (511 : Int32).toBitVec.getLsbD i = true := by decide
      exact this i c
    rw [this, Bool.true_and]
  · have := h i (by omega)
    unfold b32 at this
    rw [this, Bool.and_false]
/-- what the receipts say -/
def rR (r : Nat → Int32) : Nat := (rd r 9).toNat
def pl (r : Nat → Int32) (j : Nat) : Nat := (r (209 + 2 * j)).toNatClampNeg
def pe (r : Nat → Int32) (j : Nat) : Int := rd r (210 + 2 * j)
theorem pl_b {r : Nat → Int32} (h : ROK r) {j : Nat} (hj : j < rR r) : pl r j < 9 ∧ r (209 + 2 * j) = Int32.ofInt (pl r j : Int) ∧ 1 ≤ pe r j ∧ pe r j ≤ 999 ∧ r (210 + 2 * j) = Int32.ofInt (pe r j) := by
  obtain ⟨t0, t1, t2, t3, t4, t5, t8, t9⟩ := ROKb h
  have := h.2.2.2.2.2.2.2.2.2.2.2.2.2.2.2 j (by show (j : Int) < rd r 9; unfold rR at hj; omega)
  have e5 : (r 5).toInt = rd r 5 := rfl
  have e := i_nat (r (209 + 2 * j)) this.1.1
  refine ⟨by unfold pl; omega, ?_, this.2.1.1, this.2.1.2, rd_e r _⟩
  unfold pl
  rw [e]
  exact n_out _
/-- pints bought with a receipt at a price, where it can be -/
def bq (price pence : Int) : Option Nat := if price ≤ 0 then none else if pence - pence / price * price = 0 then some (pence / price).toNat else none
def byP (T : Nat) (price pence : Int) (L : Nat → Bool) (x : Nat) : Bool := match bq price pence with
  | none => false
  | some n => decide (x + n ≤ T) && L (x + n)
def fit (r : Nat → Int32) (w : Nat → Nat) (k : Nat) : Nat → Nat → Nat → Nat → Bool
  | 0, _, _, _ => false
  | m + 1, i, g, x => if g < rR r ∧ pl r g = w i then byP (nT r) (rd r (11 + 3 * w i)) (pe r g) (fit r w k m i (g + 1)) x || byP (nT r) (rd r (12 + 3 * w i)) (pe r g) (fit r w k m i (g + 1)) x else if i + 1 = k then decide (g = rR r) else decide (tk r (w i) (w (i + 1)) ≤ (x : Int)) && fit r w k m (i + 1) g (x - (tk r (w i) (w (i + 1))).toNat)
theorem fit_s (r : Nat → Int32) (w : Nat → Nat) (k m i g x : Nat) : fit r w k (m + 1) i g x = if g < rR r ∧ pl r g = w i then byP (nT r) (rd r (11 + 3 * w i)) (pe r g) (fit r w k m i (g + 1)) x || byP (nT r) (rd r (12 + 3 * w i)) (pe r g) (fit r w k m i (g + 1)) x else if i + 1 = k then decide (g = rR r) else decide (tk r (w i) (w (i + 1)) ≤ (x : Int)) && fit r w k m (i + 1) g (x - (tk r (w i) (w (i + 1))).toNat) := rfl
/-- from place i on, g receipts gone, x pints -/
def Fi (r : Nat → Int32) (w : Nat → Nat) (k i g x : Nat) : Bool := fit r w k (k - 1 - i + (rR r - g) + 1) i g x
theorem bq_b {price pence : Int} (h1 : 1 ≤ pence) (h2 : pence ≤ 999) {n : Nat} (h : bq price pence = some n) : 0 < price ∧ (n : Int) = pence / price ∧ n ≤ 999 ∧ pence - pence / price * price = 0 := by
  unfold bq at h
  split at h
  · cases h
  · split at h
    · have h3 := Option.some.inj h
      have q0 : 0 ≤ pence / price := Int.ediv_nonneg (by omega) (by omega)
      have q1 : pence / price ≤ pence := Int.ediv_le_self _ (by omega)
      refine ⟨by omega, by omega, by omega, by assumption⟩
    · cases h
