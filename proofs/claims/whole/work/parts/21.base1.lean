/-- the array classes: int, long, byte, int[], long[] -/
abbrev tyL (K : Nat → ClassId) : List (ClassId × FieldType) := [(K 0, .int), (K 1, .long), (K 2, .byte), (K 3, .array .int), (K 4, .array .long)]
abbrev PR (D : va_G) (K : Nat → ClassId) (ws : va_W) : State → Prop := fun U => va_P D vwCl ws U.heap ∧ va_K D vwCl (tyL K) U
abbrev PW (D : va_G) (K : Nat → ClassId) (ws : va_W) (sz : Nat) : State → Prop := fun U => U.heap.size = sz ∧ va_P D vwCl ws U.heap ∧ va_K D vwCl (tyL K) U ∧ va_D (fun _ => True) ws
abbrev BW (D : va_G) (K : Nat → ClassId) (A : Nat → Prop) (ws : va_W) (t : State) : Prop := va_P D vwCl ws t.heap ∧ va_K D vwCl (tyL K) t ∧ va_D A ws
abbrev nOne : Nat → Prop := fun _ => False
abbrev BN {S : Type} : S → State → Prop := fun _ _ => True
theorem bl_R {D : va_G} {K : Nat → ClassId} {ws : va_W} {av : List Value} : FrameBlind (va_Pc av (PR D K ws)) := fun a U g mk q => by
  obtain ⟨q0, qP, qK⟩ := q
  exact ⟨q0, qP, va_K.moved (u := U) (U := U.calling g mk a) (Vm.Alike.refl U.vm) qK⟩
theorem bl_W {D : va_G} {K : Nat → ClassId} {ws : va_W} {sz : Nat} {av : List Value} : FrameBlind (va_Pc av (PW D K ws sz)) := fun a U g mk q => by
  obtain ⟨q0, q1, qP, qK, qD⟩ := q
  exact ⟨q0, q1, qP, va_K.moved (u := U) (U := U.calling g mk a) (Vm.Alike.refl U.vm) qK, qD⟩
theorem va_Pnil {D : va_G} {cl : List vw_C} {H : Heap} : va_P D cl [] H := fun k q h => by simp at h
theorem va_Psel {D : va_G} {cl : List vw_C} {ws wc : va_W} {H : Heap} (hP : va_P D cl ws H) (is : List Nat) (hC : is.map (fun i => ws[i]?) = wc.map some) : va_P D cl wc H := by
  intro k q hk9
  have h3 : (is.map (fun i => ws[i]?))[k]? = some (some q) := by rw [hC, List.getElem?_map, hk9]; rfl
  rw [List.getElem?_map] at h3
  cases hi : is[k]? with
  | none => rw [hi] at h3; cases h3
  | some i => rw [hi] at h3; exact hP i q (Option.some.inj h3)
theorem rwl {a b : va_W} {k : Nat} {x : Nat × va_E} (h : a[k]? = some x) : (a ++ b)[k]? = some x := by
  rw [List.getElem?_append_left (List.getElem?_eq_some_iff.mp h).1]; exact h
theorem rwr {a b : va_W} {k n : Nat} {x : Nat × va_E} (ha : a.length = n) (h : b[k]? = some x) : (a ++ b)[n + k]? = some x := by
  rw [List.getElem?_append_right (by omega), ← h]
  congr 1
  omega
theorem rlt {a : va_W} {k : Nat} {x : Nat × va_E} (h : a[k]? = some x) : k < a.length := (List.getElem?_eq_some_iff.mp h).1
theorem stl {a a' b : va_W} {k : Nat} {x : Nat × va_E} (h : a.set k x = a') (hk : k < a.length) : (a ++ b).set k x = a' ++ b := by
  rw [List.set_append_left _ _ hk, h]
theorem str {a b b' : va_W} {k n : Nat} {x : Nat × va_E} (ha : a.length = n) (h : b.set k x = b') : (a ++ b).set (n + k) x = a ++ b' := by
  rw [List.set_append_right _ _ (by omega), ← h]
  congr 2
  omega
theorem vpb_lt {i : Int32} {n : Nat} (h : vpb i n = true) : i.toNatClampNeg < n := Nat.not_le.mp (fun q => vpb_in h (Or.inr q))
theorem vpb_nn {i : Int32} {n : Nat} (h : vpb i n = true) : ¬ i < 0 := fun q => vpb_in h (Or.inl q)
theorem vpb_le {i : Int32} {n : Nat} (h : vpb i (n + 1) = true) : (0 : Int32).toNatClampNeg + i.toNatClampNeg ≤ n := by
  have := vpb_lt h
  have e : (0 : Int32).toNatClampNeg = 0 := by decide
  omega
theorem gW : ∀ w ∈ wsL_law, goodWord w = true := List.all_eq_true.mp (by decide +kernel)
theorem gV {T0 : Cond} {own C : String} {i n : Nat} {y : MethodName} {b : ByteArray} {r : Option FieldType} (h1 : Cond.methodLink own i y ∈ wsL_law) (h2 : Cond.instanceMethod y ∈ wsL_law) (h3 : Cond.selects C y y ∈ wsL_law) (h4 : Cond.initialized C ∈ wsL_law) (h5 : Cond.code y b n r ∈ wsL_law) : GoodIn (T0 :: wsL_law) (wsV own i C y (.code y b n r :: wsL_law)) := by
  intro w hw
  have hm : w ∈ wsL_law := by
    rcases List.mem_append.mp hw with h | h
    · simp only [List.mem_cons, List.not_mem_nil, or_false] at h
      rcases h with rfl | rfl | rfl | rfl <;> assumption
    · rcases List.mem_cons.mp h with rfl | h
      · exact h5
      · exact h
  exact ⟨List.mem_cons_of_mem _ hm, good_of_word (gW w hm)⟩
theorem gS {T0 : Cond} {own : String} {i n : Nat} {y : MethodName} {b : ByteArray} {r : Option FieldType} (h1 : Cond.methodLink own i y ∈ wsL_law) (h2 : Cond.static y ∈ wsL_law) (h4 : Cond.initialized y.cls ∈ wsL_law) (h5 : Cond.code y b n r ∈ wsL_law) : GoodIn (T0 :: wsL_law) (va_wsS own i y (.code y b n r :: wsL_law)) := by
  intro w hw
  have hm : w ∈ wsL_law := by
    rcases List.mem_append.mp hw with h | h
    · simp only [List.mem_cons, List.not_mem_nil, or_false] at h
      rcases h with rfl | rfl | rfl <;> assumption
    · rcases List.mem_cons.mp h with rfl | h
      · exact h5
      · exact h
  exact ⟨List.mem_cons_of_mem _ hm, good_of_word (gW w hm)⟩
section XA
variable {p : Program} {l : Launch} {e : Env} {R : Room} {s : State} {m : MethodId} {args : Array Value} {below : List Frame} {meth : Method} {c : Code} {H : Heap} {locs : List Loc} {cells slots : Nat} {Q : State → Prop}
variable {cc : ByteArray} {pc : Nat} {ls : Array Slot} {rest : List Value} {D : va_G} {cl : List vw_C} {a : Nat} {tys : List (ClassId × FieldType)} {ws : va_W}
theorem va_ald2 {r : Nat} (hexec : p.tables.exec = Jvm.exec) (hb : c.code = cc) (hK : va_K D cl tys s) (hP : va_P D cl ws H) (q0 t0 : Nat) {cA : ClassId} {ty : FieldType} {n : Nat} {f : Nat → Option Nat} (ha : ws[q0]? = some (a, .inl (cA, n, .inr (.inr (.inr (.inr f)))))) (ht : tys[t0]? = some (cA, .array ty)) {i : Int32} (hin : vp_in i n) (hr : f i.toNatClampNeg = some r) (hdg : decode cc pc = .ok (.aaload, 1))
    (kk : W p l e R s m args below meth c H locs cells slots Q (F0 m (pc + 1) ls (.ref r :: rest))) : W p l e R s m args below meth c H locs cells slots Q (F0 m pc ls (.int i :: .ref a :: rest)) := by
  have hlt : i.toNatClampNeg < n := Nat.not_le.mp fun q => hin (Or.inr q)
  exact W.aald (v := .ref r) (ty := .array ty) hexec hb (hP q0 _ ha) ((hK.2 t0 _ ht).1 n (fun j => va_rf (f j))) rfl (fun q => by cases q) (by show ¬ (i < 0 ∨ (arrV _ _ _).slots.size ≤ _); rw [arrV_size]; exact hin) (by show (arrV _ _ _).slots[_]? = _; rw [arrV_read _ _ hlt, hr]; rfl) rfl rfl hdg kk
end XA
