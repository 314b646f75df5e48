/-! the start: the premises give the context; the constructors make the world; then the loop -/
def kkZ : List Nat := [66, 78, 80, 81, 83, 85, 114, 125, 129, 137, 157, 159, 168, 170, 178]
def mmZ : List Nat := [139, 141, 142, 144, 146, 148, 224, 230, 232, 238, 243, 245, 247, 150, 249]
def tmZ (i : Nat) : Term := .string RX7 (kkZ.getD i 0)
abbrev NWc : Cond := Jvm.Cond.and given_1 narrow_1
theorem nz_ex : ∀ i, i < 15 → Cond.exactly (tmZ i) "java/lang/String" ∈ flatC NWc := by decide +kernel
theorem nz_co : ∀ i, i < 15 → Cond.eq (.field (tmZ i) "java/lang/String" "coder" "B") (.int 0) ∈ flatC NWc := by decide +kernel
theorem nz_ar : ∀ i, i < 15 → Cond.arrayOf (.field (tmZ i) "java/lang/String" "value" "[B") .byte ∈ flatC NWc := by decide +kernel
theorem nz_le : ∀ i, i < 15 → Cond.eq (.length (.field (tmZ i) "java/lang/String" "value" "[B")) (.int (Int32.ofNat (lenZ.getD i 0))) ∈ flatC NWc := by decide +kernel
theorem nz_el : ∀ i, i < 15 → ∀ j, j < lenZ.getD i 0 → Cond.eq (.elem (.field (tmZ i) "java/lang/String" "value" "[B") (.int (Int32.ofNat j))) (.int ((bytZ.getD i []).getD j 0)) ∈ flatC NWc := by decide +kernel
theorem nz_eq : ∀ i, i < 15 → Cond.eq (tmZ i) (.string RX11 (mmZ.getD i 0)) ∈ flatC NWc := by decide +kernel
theorem nz_cs : Cond.eq (.static "java/lang/String" "COMPACT_STRINGS" "Z") (.int 1) ∈ flatC NWc := by decide +kernel
theorem nz_si : Cond.isRef (.static "jdk/internal/util/Preconditions" "SIOOBE_FORMATTER" "Ljava/util/function/BiFunction;") ∈ flatC NWc := by decide +kernel
theorem nz_us : Cond.isRef (.static Bundle.tN "UNASSIGNED_STACK" Bundle.steD) ∈ flatC NWc := by decide +kernel
theorem nz_ss : Cond.isRef (.static Bundle.tN "SUPPRESSED_SENTINEL" Bundle.listD) ∈ flatC NWc := by decide +kernel
theorem nz_np : Cond.exactly (.string RX10 356) "java/lang/String" ∈ flatC NWc := by decide +kernel
theorem nz_inj : ∀ i, i < 15 → ∀ j, j < 15 → Int32.ofNat (lenZ.getD i 0) = Int32.ofNat (lenZ.getD j 0) → (∀ k, k < lenZ.getD i 0 → (bytZ.getD i []).getD k 0 = (bytZ.getD j []).getD k 0) → i = j := by decide +kernel
theorem nz_le10 : ∀ i, i < 15 → lenZ.getD i 0 < 2 ^ 31 := by decide
theorem nz_ofN : ∀ i, i < 15 → ∀ j, j < 15 → Int32.ofNat (lenZ.getD i 0) = Int32.ofNat (lenZ.getD j 0) → lenZ.getD i 0 = lenZ.getD j 0 := by decide +kernel
theorem eqR {args : Array Value} {s : State} {t u : Term} {a : Nat} (h : (Cond.eq t u).before args s = true) (ht : t.eval args s none [] s = some (.ref a)) : u.eval args s none [] s = some (.ref a) := by
  cases hu : u.eval args s none [] s with
  | none => simp [Cond.before, Cond.holds, Cond.value, ht, hu] at h
  | some w =>
    simp only [Cond.before, Cond.holds, Cond.value, ht, hu] at h
    cases w <;> simp_all
theorem st_str {args : Array Value} {s : State} {A : Nat → Prop} (hs : ∀ w ∈ flatC NWc, w.before args s = true) (hA : ∀ a : Nat, a < s.heap.size → ¬ A a) : ∃ adK adV : Nat → Nat, vk_S 15 lenZ bytZ adK adV A s s.heap ∧ ∀ i, i < 15 → (tmZ i).eval args s none [] s = some (.ref (adK i)) := by
  have h0 : ∀ i : Nat, ∃ q : Nat × Nat, i < 15 → (tmZ i).eval args s none [] s = some (.ref q.1) ∧ va_O "java/lang/String" q.1 A s s.heap ∧ va_OF "java/lang/String" "coder" "B" (.int 0) q.1 A s s.heap ∧ va_OF "java/lang/String" "value" "[B" (.ref q.2) q.1 A s s.heap ∧ va_T .byte q.2 (lenZ.getD i 0) (fun j => .int ((bytZ.getD i []).getD j 0)) A s s.heap := by
    intro i
    by_cases hi : i < 15
    · have z : ∀ {P : Nat → Prop}, P 0 → ∀ j : Nat, j < 1 → P j := fun {P} h j hj => by
        have e : j = 0 := by omega
        rw [e]
        exact h
      obtain ⟨a, v, h1, h2⟩ := vk_Sof (N := 1) (tm := fun _ => tmZ i) (len := [lenZ.getD i 0]) (byt := [bytZ.getD i []]) (args := args) (s := s) (A := A) (z (nz_le10 i hi)) (z (hs _ (nz_ex i hi))) (z (hs _ (nz_co i hi))) (z (hs _ (nz_ar i hi))) (z (hs _ (nz_le i hi))) (z (fun j hj => hs _ (nz_el i hi j hj))) (fun i1 j1 h3 h4 h5 => absurd (by omega : i1 = j1) h5) hA
      exact ⟨(a 0, v 0), fun _ => ⟨h2 0 (by omega), h1.1 0 (by omega)⟩⟩
    · exact ⟨(0, 0), fun h => absurd h hi⟩
  obtain ⟨ad, had⟩ := Classical.axiomOfChoice h0
  refine ⟨fun i => (ad i).1, fun i => (ad i).2, ⟨fun i hi => (had i hi).2, fun i j hi hj e => ?_⟩, fun i hi => (had i hi).1⟩
  have e : (ad i).1 = (ad j).1 := e
  obtain ⟨-, -, -, ⟨cf, k, fi, f, cell, g1, g2, g3, g4, g5, g6⟩, ⟨ce, t1, t2, t3, t4, t5, t6, t7⟩⟩ := had i hi
  obtain ⟨-, -, -, ⟨cf', k', fi', f', cell', g1', g2', g3', g4', g5', g6'⟩, ⟨ce', t1', t2', t3', t4', t5', t6', t7'⟩⟩ := had j hj
  have q1 := Option.some.inj (g1.symm.trans g1')
  have q2 : f = f' := by
    simp only [Prod.mk.injEq] at q1
    exact q1.2.2.2
  rw [← e] at g3'
  have q3 : cell = cell' := Option.some.inj (g3.symm.trans g3')
  rw [← q2, ← q3] at g5'
  have q4 := Option.some.inj (g5.symm.trans g5')
  have q5 : (ad i).2 = (ad j).2 := by
    injection q4
  rw [← q5] at t1'
  have q6 : ce = ce' := Option.some.inj (t1.symm.trans t1')
  subst q6
  have q7 := t5.symm.trans t5'
  have q8 := nz_ofN i hi j hj q7
  refine nz_inj i hi j hj q7 (fun k hk => ?_)
  have q9 := Option.some.inj ((t6 k hk).symm.trans (t6' k (by rw [← q8]; exact hk)))
  injection q9
set_option maxHeartbeats 4000000 in
set_option maxRecDepth 100000 in
theorem st_ctx {p : Program} {s : State} {m : MethodId} {meth : Method} {c : Code} (l : Launch) (hflags : l.flags = flags0) {b L : Nat} {xs : Nat → Int32} (hL : L ≤ 3072) (C0 : lw_At p s m meth c b L xs) : ∃ (D : va_G) (K : Nat → ClassId) (adK adV : Nat → Nat) (tF sa : Nat), LCx p l s m c b L xs D K adK adV tF sa ∧ OOs s := by
  obtain ⟨hx, hb, hr, hml, hown, hts0, hX, hbl, hlocks, hgv⟩ := C0
  have hs := flat_of_before _ hgv
  have hA : ∀ a : Nat, a < s.heap.size → ¬ (fun q : Nat => s.heap.size ≤ q) a := fun a h => Nat.not_le.mpr h
  have htl : ∀ w ∈ wsL_law, w.before #[Value.ref b] s = true := fun w h => hts0 w (wsL_law_in w h)
  have hts : ∀ w ∈ TsL, w.before #[Value.ref b] s = true := List.forall_mem_cons.mpr ⟨(hts0 _ (mt_1 (List.mem_of_getElem? (i := 1) rfl))), htl⟩
  obtain ⟨c0, f0, k0⟩ := u_known (C := RX0) (T := TX0) (N := 1) (n := 1) hts0 ri_X0 (hts0 _ (mt_1 (List.mem_of_getElem? (i := 234) rfl)))
  obtain ⟨c1, f1, k1⟩ := u_known (C := RX1) (T := TX1) (N := 6) (n := 6) hts0 ri_X1 (hts0 _ (mt_1 (List.mem_of_getElem? (i := 228) rfl)))
  obtain ⟨c2, f2, k2⟩ := u_known (C := RX2) (T := TX2) (N := 2) (n := 2) hts0 ri_X2 (hts0 _ (mt_2 (List.mem_of_getElem? (i := 114) rfl)))
  obtain ⟨c3, f3, k3⟩ := u_known (C := RX3) (T := TX3) (N := 7) (n := 7) hts0 ri_X3 (hts0 _ (mt_2 (List.mem_of_getElem? (i := 80) rfl)))
  obtain ⟨c4, f4, k4⟩ := u_known (C := RX5) (T := TX5) (N := 3) (n := 3) hts0 ri_X5 (hts0 _ (mt_2 (List.mem_of_getElem? (i := 26) rfl)))
  obtain ⟨c5, f5, k5⟩ := u_known (C := RX6) (T := TX6) (N := 4) (n := 4) hts0 ri_X6 (hts0 _ (mt_1 (List.mem_of_getElem? (i := 203) rfl)))
  obtain ⟨c6, f6, k6⟩ := u_known (C := RX7) (T := TX7) (N := 11) (n := 11) hts0 ri_X7 (hts0 _ (mt_1 (List.mem_of_getElem? (i := 159) rfl)))
  obtain ⟨c7, f7, k7⟩ := u_known (C := RX8) (T := TX8) (N := 8) (n := 8) hts0 ri_X8 (hts0 _ (mt_2 (List.mem_of_getElem? (i := 43) rfl)))
  obtain ⟨c8, f8, k8⟩ := u_known (C := RX9) (T := TX9) (N := 19) (n := 19) hts0 ri_X9 (hts0 _ (mt_1 (List.mem_of_getElem? (i := 36) rfl)))
  obtain ⟨c9, f9, k9⟩ := u_known (C := RX10) (T := TX10) (N := 14) (n := 14) hts0 ri_X10 (hts0 _ (mt_1 (List.mem_of_getElem? (i := 28) rfl)))
  obtain ⟨c10, f10, k10⟩ := u_known (C := RX11) (T := TX11) (N := 41) (n := 41) hts0 ri_X11 (hts0 _ (mt_6 (List.mem_of_getElem? (i := 108) rfl)))
  obtain ⟨a0, ka0, co0, ha0, hb0, hc0⟩ := Cond.arrayClass_spec (hts0 _ (mt_1 (List.mem_of_getElem? (i := 157) rfl)))
  obtain ⟨a1, ka1, co1, ha1, hb1, hc1⟩ := Cond.arrayClass_spec (hts0 _ (mt_1 (List.mem_of_getElem? (i := 226) rfl)))
  obtain ⟨a2, ka2, co2, ha2, hb2, hc2⟩ := Cond.arrayClass_spec (hts0 _ (mt_1 (List.mem_of_getElem? (i := 156) rfl)))
  have ov3 := (hts0 _ (mt_1 (List.mem_of_getElem? (i := 209) rfl)))
  obtain ⟨co3, a3, ka3, -, -, hb3, hc3, ha3⟩ := arrayOverA_spec ov3
  have ov4 := (hts0 _ (mt_1 (List.mem_of_getElem? (i := 211) rfl)))
  obtain ⟨co4, a4, ka4, -, -, hb4, hc4, ha4⟩ := arrayOverA_spec ov4
  obtain ⟨adK, adV, hSt, hEv⟩ := st_str (A := fun q : Nat => s.heap.size ≤ q) hs hA
  have hCS := va_Zof (A := fun q : Nat => s.heap.size ≤ q) (hts0 _ (mt_2 (List.mem_of_getElem? (i := 227) rfl))) (hts0 _ (mt_1 (List.mem_of_getElem? (i := 14) rfl))) (va_eqt (hs _ nz_cs)) hA
  obtain ⟨tF, hSI⟩ : ∃ tF : Nat, va_Z "jdk/internal/util/Preconditions" "SIOOBE_FORMATTER" "Ljava/util/function/BiFunction;" (rvF tF) (fun q : Nat => s.heap.size ≤ q) s s.heap := by
    rcases va_Zqof (A := fun q : Nat => s.heap.size ≤ q) (hts0 _ (mt_3 (List.mem_of_getElem? (i := 3) rfl))) (hts0 _ (mt_1 (List.mem_of_getElem? (i := 16) rfl))) (hs _ nz_si) hA with h | ⟨t, h⟩
    · exact ⟨0, h⟩
    · exact ⟨t + 1, h⟩
  have hR : ∀ q ∈ strL, vk_R q.1 q.2.1 q.2.2.1 (adK q.2.2.2) s := List.forall_mem_cons.mpr ⟨vk_R.of (hts0 _ (mt_7 (List.mem_of_getElem? (i := 38) rfl))) (eqR (hs _ (nz_eq 0 (by decide))) (hEv 0 (by decide))), List.forall_mem_cons.mpr ⟨vk_R.of (hts0 _ (mt_7 (List.mem_of_getElem? (i := 81) rfl))) (eqR (hs _ (nz_eq 1 (by decide))) (hEv 1 (by decide))), List.forall_mem_cons.mpr ⟨vk_R.of (hts0 _ (mt_7 (List.mem_of_getElem? (i := 94) rfl))) (eqR (hs _ (nz_eq 2 (by decide))) (hEv 2 (by decide))), List.forall_mem_cons.mpr ⟨vk_R.of (hts0 _ (mt_7 (List.mem_of_getElem? (i := 95) rfl))) (eqR (hs _ (nz_eq 3 (by decide))) (hEv 3 (by decide))), List.forall_mem_cons.mpr ⟨vk_R.of (hts0 _ (mt_7 (List.mem_of_getElem? (i := 96) rfl))) (eqR (hs _ (nz_eq 4 (by decide))) (hEv 4 (by decide))), List.forall_mem_cons.mpr ⟨vk_R.of (hts0 _ (mt_7 (List.mem_of_getElem? (i := 97) rfl))) (eqR (hs _ (nz_eq 5 (by decide))) (hEv 5 (by decide))), List.forall_mem_cons.mpr ⟨vk_R.of (hts0 _ (mt_7 (List.mem_of_getElem? (i := 98) rfl))) (eqR (hs _ (nz_eq 13 (by decide))) (hEv 13 (by decide))), List.forall_mem_cons.mpr ⟨vk_R.of (hts0 _ (mt_7 (List.mem_of_getElem? (i := 53) rfl))) (eqR (hs _ (nz_eq 6 (by decide))) (hEv 6 (by decide))), List.forall_mem_cons.mpr ⟨vk_R.of (hts0 _ (mt_7 (List.mem_of_getElem? (i := 74) rfl))) (eqR (hs _ (nz_eq 7 (by decide))) (hEv 7 (by decide))), List.forall_mem_cons.mpr ⟨vk_R.of (hts0 _ (mt_7 (List.mem_of_getElem? (i := 75) rfl))) (eqR (hs _ (nz_eq 8 (by decide))) (hEv 8 (by decide))), List.forall_mem_cons.mpr ⟨vk_R.of (hts0 _ (mt_7 (List.mem_of_getElem? (i := 80) rfl))) (eqR (hs _ (nz_eq 9 (by decide))) (hEv 9 (by decide))), List.forall_mem_cons.mpr ⟨vk_R.of (hts0 _ (mt_7 (List.mem_of_getElem? (i := 115) rfl))) (eqR (hs _ (nz_eq 10 (by decide))) (hEv 10 (by decide))), List.forall_mem_cons.mpr ⟨vk_R.of (hts0 _ (mt_7 (List.mem_of_getElem? (i := 116) rfl))) (eqR (hs _ (nz_eq 11 (by decide))) (hEv 11 (by decide))), List.forall_mem_cons.mpr ⟨vk_R.of (hts0 _ (mt_7 (List.mem_of_getElem? (i := 121) rfl))) (eqR (hs _ (nz_eq 12 (by decide))) (hEv 12 (by decide))), List.forall_mem_cons.mpr ⟨vk_R.of (hts0 _ (mt_7 (List.mem_of_getElem? (i := 122) rfl))) (eqR (hs _ (nz_eq 14 (by decide))) (hEv 14 (by decide))), List.forall_mem_cons.mpr ⟨vk_R.of (hts0 _ (mt_2 (List.mem_of_getElem? (i := 213) rfl))) (hEv 0 (by decide)), List.forall_mem_cons.mpr ⟨vk_R.of (hts0 _ (mt_3 (List.mem_of_getElem? (i := 58) rfl))) (hEv 1 (by decide)), List.forall_mem_cons.mpr ⟨vk_R.of (hts0 _ (mt_3 (List.mem_of_getElem? (i := 59) rfl))) (hEv 2 (by decide)), List.forall_mem_cons.mpr ⟨vk_R.of (hts0 _ (mt_3 (List.mem_of_getElem? (i := 60) rfl))) (hEv 3 (by decide)), List.forall_mem_cons.mpr ⟨vk_R.of (hts0 _ (mt_3 (List.mem_of_getElem? (i := 61) rfl))) (hEv 4 (by decide)), List.forall_mem_cons.mpr ⟨vk_R.of (hts0 _ (mt_3 (List.mem_of_getElem? (i := 62) rfl))) (hEv 5 (by decide)), List.forall_mem_cons.mpr ⟨vk_R.of (hts0 _ (mt_3 (List.mem_of_getElem? (i := 38) rfl))) (hEv 6 (by decide)), List.forall_mem_cons.mpr ⟨vk_R.of (hts0 _ (mt_3 (List.mem_of_getElem? (i := 47) rfl))) (hEv 7 (by decide)), List.forall_mem_cons.mpr ⟨vk_R.of (hts0 _ (mt_3 (List.mem_of_getElem? (i := 48) rfl))) (hEv 8 (by decide)), List.forall_mem_cons.mpr ⟨vk_R.of (hts0 _ (mt_3 (List.mem_of_getElem? (i := 57) rfl))) (hEv 9 (by decide)), List.forall_mem_cons.mpr ⟨vk_R.of (hts0 _ (mt_3 (List.mem_of_getElem? (i := 96) rfl))) (hEv 10 (by decide)), List.forall_mem_cons.mpr ⟨vk_R.of (hts0 _ (mt_3 (List.mem_of_getElem? (i := 97) rfl))) (hEv 11 (by decide)), List.forall_mem_cons.mpr ⟨vk_R.of (hts0 _ (mt_3 (List.mem_of_getElem? (i := 106) rfl))) (hEv 12 (by decide)), List.forall_mem_cons.mpr ⟨vk_R.of (hts0 _ (mt_3 (List.mem_of_getElem? (i := 71) rfl))) (hEv 13 (by decide)), List.forall_mem_cons.mpr ⟨vk_R.of (hts0 _ (mt_3 (List.mem_of_getElem? (i := 107) rfl))) (hEv 14 (by decide)), fun _ h => absurd h List.not_mem_nil⟩⟩⟩⟩⟩⟩⟩⟩⟩⟩⟩⟩⟩⟩⟩⟩⟩⟩⟩⟩⟩⟩⟩⟩⟩⟩⟩⟩⟩⟩
  obtain ⟨sa, -, -, -, hsa, -⟩ := Cond.exactly_spec (hs _ nz_np)
  have hLD : LDs sa (fun q : Nat => s.heap.size ≤ q) s := ⟨⟨va_Nw.of rfl (hts0 _ (mt_6 (List.mem_of_getElem? (i := 44) rfl))), va_Nw.of rfl (hts0 _ (mt_6 (List.mem_of_getElem? (i := 46) rfl))), va_Nw.of rfl (hts0 _ (mt_6 (List.mem_of_getElem? (i := 48) rfl))), va_Nw.of rfl (hts0 _ (mt_6 (List.mem_of_getElem? (i := 50) rfl)))⟩, vk_R.of (hts0 _ (mt_6 (List.mem_of_getElem? (i := 81) rfl))) hsa, vx_Zqof (hts0 _ (mt_6 (List.mem_of_getElem? (i := 69) rfl))) (hts0 _ (mt_1 (List.mem_of_getElem? (i := 23) rfl))) (hs _ nz_us) hA, vx_Zqof (hts0 _ (mt_6 (List.mem_of_getElem? (i := 71) rfl))) (hts0 _ (mt_1 (List.mem_of_getElem? (i := 23) rfl))) (hs _ nz_ss) hA⟩
  have hNW : NWs s := List.forall_mem_cons.mpr ⟨va_Nw.of rfl (hts0 _ (mt_1 (List.mem_of_getElem? (i := 37) rfl))), List.forall_mem_cons.mpr ⟨va_Nw.of rfl (hts0 _ (mt_1 (List.mem_of_getElem? (i := 160) rfl))), List.forall_mem_cons.mpr ⟨va_Nw.of rfl (hts0 _ (mt_1 (List.mem_of_getElem? (i := 165) rfl))), List.forall_mem_cons.mpr ⟨va_Nw.of rfl (hts0 _ (mt_1 (List.mem_of_getElem? (i := 204) rfl))), List.forall_mem_cons.mpr ⟨va_Nw.of rfl (hts0 _ (mt_1 (List.mem_of_getElem? (i := 229) rfl))), List.forall_mem_cons.mpr ⟨va_Nw.of rfl (hts0 _ (mt_1 (List.mem_of_getElem? (i := 235) rfl))), List.forall_mem_cons.mpr ⟨va_Nw.of rfl (hts0 _ (mt_2 (List.mem_of_getElem? (i := 27) rfl))), List.forall_mem_cons.mpr ⟨va_Nw.of rfl (hts0 _ (mt_2 (List.mem_of_getElem? (i := 44) rfl))), List.forall_mem_cons.mpr ⟨va_Nw.of rfl (hts0 _ (mt_2 (List.mem_of_getElem? (i := 81) rfl))), List.forall_mem_cons.mpr ⟨va_Nw.of rfl (hts0 _ (mt_2 (List.mem_of_getElem? (i := 87) rfl))), List.forall_mem_cons.mpr ⟨va_Nw.of rfl (hts0 _ (mt_2 (List.mem_of_getElem? (i := 115) rfl))), fun _ h => absurd h List.not_mem_nil⟩⟩⟩⟩⟩⟩⟩⟩⟩⟩⟩
  refine ⟨((uN (uN (uN (uN (uN (uN (uN (uN (uN (uN (fun _ : Nat => c0) 1 c1) 2 c2) 3 c3) 4 c4) 5 c5) 6 c6) 7 c7) 8 c8) 9 c9) 10 c10), (uN (uN (uN (uN (uN (uN (uN (uN (uN (uN (fun _ : Nat => f0) 1 f1) 2 f2) 3 f3) 4 f4) 5 f5) 6 f6) 7 f7) 8 f8) 9 f9) 10 f10)), (uN (uN (uN (uN (fun _ : Nat => a0) 1 a1) 2 a2) 3 a3) 4 a4), adK, adV, tF, sa, ⟨hx, hb, hml, hown, hts, hX, hbl, ⟨fun j q hq => ?_, fun j q hq => ?_⟩, ⟨hSt, hCS, hSI, hR⟩, hLD, ?_, hL⟩, ⟨over_moved (Vm.Alike.refl _) ov3, over_moved (Vm.Alike.refl _) ov4⟩, hNW⟩
  · match j, hq with
    | 0, hq => have e9 := Option.some.inj hq; subst e9; exact k0
    | 1, hq => have e9 := Option.some.inj hq; subst e9; exact k1
    | 2, hq => have e9 := Option.some.inj hq; subst e9; exact k2
    | 3, hq => have e9 := Option.some.inj hq; subst e9; exact k3
    | 4, hq => have e9 := Option.some.inj hq; subst e9; exact k4
    | 5, hq => have e9 := Option.some.inj hq; subst e9; exact k5
    | 6, hq => have e9 := Option.some.inj hq; subst e9; exact k6
    | 7, hq => have e9 := Option.some.inj hq; subst e9; exact k7
    | 8, hq => have e9 := Option.some.inj hq; subst e9; exact k8
    | 9, hq => have e9 := Option.some.inj hq; subst e9; exact k9
    | 10, hq => have e9 := Option.some.inj hq; subst e9; exact k10
    | j + 11, hq => exact absurd hq (by simp [vwCl])
  · match j, hq with
    | 0, hq => have e9 := Option.some.inj hq; subst e9; exact ⟨fun n z => ⟨fun k h => (by cases h), ka0, hb0, co0, hc0⟩, ha0⟩
    | 1, hq => have e9 := Option.some.inj hq; subst e9; exact ⟨fun n z => ⟨fun k h => (by cases h), ka1, hb1, co1, hc1⟩, ha1⟩
    | 2, hq => have e9 := Option.some.inj hq; subst e9; exact ⟨fun n z => ⟨fun k h => (by cases h), ka2, hb2, co2, hc2⟩, ha2⟩
    | 3, hq => have e9 := Option.some.inj hq; subst e9; exact ⟨fun n z => ⟨fun k h => (by cases h), ka3, hb3, co3, hc3⟩, ha3⟩
    | 4, hq => have e9 := Option.some.inj hq; subst e9; exact ⟨fun n z => ⟨fun k h => (by cases h), ka4, hb4, co4, hc4⟩, ha4⟩
    | j + 5, hq => exact absurd hq (by simp [tyL])
  · unfold Launch.stackTraces
    rw [hflags]
    decide
def wNl (K : Nat → ClassId) (u : Nat → Nat → Nat) : List va_W := [wMn K (u 0) (u 17 0) ((u 18) 99) ((u 19) 99) ((u 1) 99) ((u 2) 99) ((u 5) 99) ((u 9) 99) ((u 11) 99) ((u 12) 99) ((u 16) 99) z0, wRd K (u 1) (u 1 2) (u 1 4) z0, wPl K (u 2) (u 3) (u 4) z0, wPc K (u 3) z0, wPb K (u 4) z0, wDr K (u 5) ((u 8) 99) (u 6 0) (u 7 0) z0, wAI K (u 6 0) 41 (fun _ => 0), wAI K (u 7 0) 41 (fun _ => 0), wDw K (u 8) z0, wNe K (u 9) (u 10) z0, wNc K (u 10) z0, wRe K (u 11) z0, wJo K (u 12) ((u 15) 99) (u 13) (u 14) z0, wJk K (u 13) z0, wJi K (u 14) z0, wDw K (u 15) z0, wFr K (u 16) (sL z0 1 1), wAB K (u 17 0) 800 (fun _ => 0), wRo K (u 18) z0, wRo K (u 19) z0]
set_option maxHeartbeats 4000000 in
set_option maxRecDepth 100000 in
theorem wL_new {K : Nat → ClassId} {u : Nat → Nat → Nat} {u2 : Nat → Nat} {q : Nat} : (wL K (uN (uN u 20 u2) 21 (fun _ => q)) (uN (uN (fun _ => z0) 16 (sL z0 1 1)) 20 (sI z0 10 (-1)))).flatten = wNew K u ++ wMo K u2 (sI z0 10 (-1)) ++ wAJ K q 1 (fun _ => 0) := by
  have e0 : wL K (uN (uN u 20 u2) 21 (fun _ => q)) (uN (uN (fun _ => z0) 16 (sL z0 1 1)) 20 (sI z0 10 (-1))) = wNl K u ++ [wMo K u2 (sI z0 10 (-1)), wAJ K q 1 (fun _ => 0)] := rfl
  rw [e0, List.flatten_append, fl2, ← List.append_assoc]
  rfl
set_option maxHeartbeats 4000000 in
set_option maxRecDepth 100000 in
theorem whole_start {p : Program} {e : Env} {s : State} {m : MethodId} {below : List Frame} {meth : Method} {c : Code} (l : Launch) (hflags : l.flags = flags0) {b L : Nat} {xs : Nat → Int32} (hL : L ≤ 3072) (C0 : lw_At p s m meth c b L xs) : W p l e room_1 s m #[Value.ref b] below meth c s.heap [] 0 0 (lw_Z below #[Value.ref b] s) (entryFrame m ([Value.ref b] : List Value).toArray 7) := by
  obtain ⟨D, K, adK, adV, tF, sa, X, hO⟩ := st_ctx l hflags hL C0
  obtain ⟨hx, hb, hr, hml, hown, hts0, hX, hbl, hlocks, hgv⟩ := C0
  have hts : ∀ w ∈ TsL, w.before #[Value.ref b] s = true := X.2.2.2.2.1
  have htl : ∀ w ∈ wsL_law, w.before #[Value.ref b] s = true := fun w h => hts w (List.mem_cons_of_mem _ h)
  have hown : s.vm.findClass RL = some m.cls := hown
  have hK := X.2.2.2.2.2.2.2.1
  have hloop := law_loop (e := e) (below := below) X hr hlocks (L + 1) 0 (by omega) (by omega)
  generalize hAe : (fun q : Nat => s.heap.size ≤ q) = A
  have hA : ∀ q : Nat, s.heap.size ≤ q → A q := fun q h => by rw [← hAe]; exact h
  have hS : va_S A s.heap s.heap [] := va_S.rf
  have hP : va_P D vwCl [] s.heap := fun k q h => absurd h (by simp)
  have hD : va_D A [] := ⟨fun i j p q h => absurd h (by simp), fun k q h => absurd h (by simp)⟩
  have iX10 : ∀ w ∈ wsX100, w ∈ TsL := fun w h => List.mem_cons_of_mem _ (inlX10 w h)
  have iX11 : ∀ w ∈ wsX110, w ∈ TsL := fun w h => List.mem_cons_of_mem _ (inlX11 w h)
  have hl := lv_entry ([.ref b]) (n := 7) (Nat.le_of_ble_eq_true rfl)
  rw [lg_entry_eq]
  generalize (lg_sl ([.ref b]) ++ List.replicate (7 - (lg_sl ([.ref b])).length) Slot.unset).toArray = ls at hl ⊢
  have hl : lv_has ls 7 [(0, .ref b)] := hl
  refine va_new (ci := 9) (fs := dfMn) (C := RX10) (T := TX10) (N := 14) hx hb hts iX10 tyX10 tyX10_ok hown (htl _ (mB1 _ (List.mem_of_getElem? (i := 0) rfl))) (htl _ (mB1 _ (List.mem_of_getElem? (i := 1) rfl))) (htl _ (mB1 _ (List.mem_of_getElem? (i := 2) rfl))) hK hP hD hS hA rfl dfMn_ok (Nat.le_of_ble_eq_true rfl) (Nat.le_of_ble_eq_true rfl) dL_law_0 (fun q1 H hP hD hS => ?_)
  refine lv_dup hx hb dL_law_3 rfl ?_
  refine rk_I (pre := []) (last := [(q1, .inr (9, dfMn))]) (rest := [.ref q1]) ⟨hx, hb, hml, hown, hts⟩ (c_X10_init l D K q1 H.size) (cwI 0 hts (gI (mB1 _ (List.mem_of_getElem? (i := 9) rfl))) rfl rfl rfl (htl _ (mB1 _ (List.mem_of_getElem? (i := 2) rfl))) (htl _ (mB1 _ (List.mem_of_getElem? (i := 7) rfl))) (htl _ (mB1 _ (List.mem_of_getElem? (i := 8) rfl))) rfl (by decide +kernel) ⟨(Nat.le_of_ble_eq_true rfl), (Nat.le_of_ble_eq_true rfl)⟩) hK hO hP hD hS hA hl.1 rfl (Nat.le_of_ble_eq_true rfl) dL_law_4 ⟨(Nat.le_of_ble_eq_true rfl), (Nat.le_of_ble_eq_true rfl)⟩ (fun u1 H locs hu hPn hDn hS => ?_)
  subst hu
  have hP := hPn
  have hD := hDn
  have hP : va_P D vwCl (wNew K u1) H := hP
  have hD : va_D A (wNew K u1) := hD
  refine lv_astore_n (lv' := [(1, .ref (u1 0 99)), (0, .ref b)]) hx hb dL_law_7 rfl hl (by decide) rfl (fun ls hl => ?_)
  refine va_new (ci := 10) (fs := dfMo) (C := RX11) (T := TX11) (N := 41) hx hb hts iX11 tyX11 tyX11_ok hown (htl _ (mB1 _ (List.mem_of_getElem? (i := 3) rfl))) (htl _ (mB1 _ (List.mem_of_getElem? (i := 4) rfl))) (htl _ (mB1 _ (List.mem_of_getElem? (i := 5) rfl))) hK hP hD hS hA rfl dfMo_ok (Nat.le_of_ble_eq_true rfl) (Nat.le_of_ble_eq_true rfl) dL_law_8 (fun q2 H hP hD hS => ?_)
  refine lv_dup hx hb dL_law_11 rfl ?_
  refine rk_I (pre := wNew K u1) (last := [(q2, .inr (10, dfMo))]) (rest := [.ref q2]) ⟨hx, hb, hml, hown, hts⟩ (c_X11_init l D K q2 H.size) (cwI 0 hts (gI (mB5 _ (List.mem_of_getElem? (i := 22) rfl))) rfl rfl rfl (htl _ (mB1 _ (List.mem_of_getElem? (i := 5) rfl))) (htl _ (mB5 _ (List.mem_of_getElem? (i := 20) rfl))) (htl _ (mB5 _ (List.mem_of_getElem? (i := 21) rfl))) rfl (by decide +kernel) ⟨(Nat.le_of_ble_eq_true rfl), (Nat.le_of_ble_eq_true rfl)⟩) hK hO hP hD hS hA hl.1 rfl (Nat.le_of_ble_eq_true rfl) dL_law_12 ⟨(Nat.le_of_ble_eq_true rfl), (Nat.le_of_ble_eq_true rfl)⟩ (fun u2 H locs hu hPn hDn hS => ?_)
  subst hu
  have hP := hPn
  have hD := hDn
  refine lv_astore_n (lv' := [(2, .ref (u2 99)), (1, .ref (u1 0 99)), (0, .ref b)]) hx hb dL_law_15 rfl hl (by decide) rfl (fun ls hl => ?_)
  refine lv_iconst (v := (1 : Int32)) hx hb dL_law_16 (by decide) ?_
  refine nw_l hx hb (htl _ (mB1 _ (List.mem_of_getElem? (i := 6) rfl))) hK hP hD hS hA (n := (1 : Int32)) (N' := 1) (by decide) rfl (Nat.le_of_ble_eq_true rfl) (Nat.le_of_ble_eq_true rfl) (Nat.le_of_ble_eq_true rfl) dL_law_17 (fun q3 H hP hD hS => ?_)
  refine lv_astore_n (lv' := [(3, .ref q3), (2, .ref (u2 99)), (1, .ref (u1 0 99)), (0, .ref b)]) hx hb dL_law_19 rfl hl (by decide) rfl (fun ls hl => ?_)
  refine lv_iconst (v := Int32.ofInt ((0 : Nat) : Int)) hx hb dL_law_20 rfl ?_
  refine lv_istore (lv' := [(4, .int (Int32.ofInt ((0 : Nat) : Int))), (3, .ref q3), (2, .ref (u2 99)), (1, .ref (u1 0 99)), (0, .ref b)]) hx hb dL_law_21 hl (by decide) rfl (fun ls hl => ?_)
  rw [← wL_new] at hP hD
  subst hAe
  exact hloop _ _ H _ ls _ _ (Nat.le_of_ble_eq_true rfl) (Nat.le_of_ble_eq_true rfl) REL_start hP hD hS (lv_sub hl [4, 3, 2, 1, 0] rfl)
