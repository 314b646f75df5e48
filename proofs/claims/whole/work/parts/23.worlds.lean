/-! the cells of each kind -/
def fsRo (h : Nat → Nat) (s : MS) : List Value := [.int (s.1 0), .int (s.1 1), .int (s.1 2), .int (s.1 3), .int (s.1 4), .int (s.1 5), .int (s.1 6), .int (s.1 7), .int (s.1 8), .int (s.1 9), .ref (h 10), .ref (h 11), .ref (h 12), .ref (h 13), .ref (h 14), .ref (h 15), .ref (h 16), .ref (h 17), .ref (h 18)]
def wRo (K : Nat → ClassId) (h : Nat → Nat) (s : MS) : va_W := [(h 99, .inr (8, fsRo h s)), (h 10, .inl (K 0, 81, .inl (s.2.2.1 10))), (h 11, .inl (K 0, 81, .inl (s.2.2.1 11))), (h 12, .inl (K 0, 9, .inl (s.2.2.1 12))), (h 13, .inl (K 0, 9, .inl (s.2.2.1 13))), (h 14, .inl (K 0, 9, .inl (s.2.2.1 14))), (h 15, .inl (K 0, 9, .inl (s.2.2.1 15))), (h 16, .inl (K 0, 9, .inl (s.2.2.1 16))), (h 17, .inl (K 0, 5, .inl (s.2.2.1 17))), (h 18, .inl (K 0, 5, .inl (s.2.2.1 18)))]
def fsDw (h : Nat → Nat) (s : MS) : List Value := [.int (s.1 0)]
def wDw (K : Nat → ClassId) (h : Nat → Nat) (s : MS) : va_W := [(h 99, .inr (0, fsDw h s))]
def fsFr (h : Nat → Nat) (s : MS) : List Value := [.long (s.2.1 0), .long (s.2.1 1)]
def wFr (K : Nat → ClassId) (h : Nat → Nat) (s : MS) : va_W := [(h 99, .inr (2, fsFr h s))]
def fsDr (h : Nat → Nat) (r1 : Nat) (r3 : Nat) (r4 : Nat) (s : MS) : List Value := [.int (s.1 0), .ref r1, .ref (h 2), .ref r3, .ref r4, .long (s.2.1 5)]
def wDr (K : Nat → ClassId) (h : Nat → Nat) (r1 : Nat) (r3 : Nat) (r4 : Nat) (s : MS) : va_W := [(h 99, .inr (1, fsDr h r1 r3 r4 s)), (h 2, .inl (K 1, 41, .inr (.inl (s.2.2.2 2))))]
def fsJo (h : Nat → Nat) (r6 : Nat) (s : MS) : List Value := [.ref (h 0), .int (s.1 1), .int (s.1 2), .int (s.1 3), .ref (h 4), .ref (h 5), .ref r6]
def wJo (K : Nat → ClassId) (h : Nat → Nat) (r6 : Nat) (g4 : Nat → Nat) (g5 : Nat → Nat) (s : MS) : va_W := [(h 99, .inr (3, fsJo h r6 s)), (h 0, .inl (K 0, 7, .inl (s.2.2.1 0))), (h 4, .inl (K 3, 12, .inr (.inr (.inr (.inr (fun i => if i < 12 then some (g4 i) else none)))))), (h 5, .inl (K 3, 3, .inr (.inr (.inr (.inr (fun i => if i < 3 then some (g5 i) else none))))))]
def fsNe (h : Nat → Nat) (s : MS) : List Value := [.ref (h 0), .ref (h 1), .ref (h 2)]
def wNe (K : Nat → ClassId) (h : Nat → Nat) (g0 : Nat → Nat) (s : MS) : va_W := [(h 99, .inr (4, fsNe h s)), (h 0, .inl (K 3, 9, .inr (.inr (.inr (.inr (fun i => if i < 9 then some (g0 i) else none)))))), (h 1, .inl (K 0, 41, .inl (s.2.2.1 1))), (h 2, .inl (K 0, 9, .inl (s.2.2.1 2)))]
def fsPl (h : Nat → Nat) (s : MS) : List Value := [.ref (h 0), .ref (h 1), .ref (h 2), .ref (h 3)]
def wPl (K : Nat → ClassId) (h : Nat → Nat) (g2 : Nat → Nat) (g3 : Nat → Nat) (s : MS) : va_W := [(h 99, .inr (5, fsPl h s)), (h 0, .inl (K 0, 9, .inl (s.2.2.1 0))), (h 1, .inl (K 1, 41, .inr (.inl (s.2.2.2 1)))), (h 2, .inl (K 3, 9, .inr (.inr (.inr (.inr (fun i => if i < 9 then some (g2 i) else none)))))), (h 3, .inl (K 4, 10, .inr (.inr (.inr (.inr (fun i => if i < 10 then some (g3 i) else none))))))]
def fsRd (h : Nat → Nat) (r2 : Nat) (r4 : Nat) (s : MS) : List Value := [.int (s.1 0), .int (s.1 1), .ref r2, .int (s.1 3), .ref r4, .int (s.1 5), .int (s.1 6), .int (s.1 7), .int (s.1 8), .ref (h 9), .ref (h 10)]
def wRd (K : Nat → ClassId) (h : Nat → Nat) (r2 : Nat) (r4 : Nat) (s : MS) : va_W := [(h 99, .inr (6, fsRd h r2 r4 s)), (h 9, .inl (K 0, 9, .inl (s.2.2.1 9))), (h 10, .inl (K 0, 9, .inl (s.2.2.1 10)))]
def fsRe (h : Nat → Nat) (s : MS) : List Value := [.int (s.1 0), .int (s.1 1), .int (s.1 2), .long (s.2.1 3), .ref (h 4), .int (s.1 5), .int (s.1 6), .ref (h 7)]
def wRe (K : Nat → ClassId) (h : Nat → Nat) (s : MS) : va_W := [(h 99, .inr (7, fsRe h s)), (h 4, .inl (K 0, 9, .inl (s.2.2.1 4))), (h 7, .inl (K 0, 9, .inl (s.2.2.1 7)))]
def fsMn (h : Nat → Nat) (r0 : Nat) (r2 : Nat) (r3 : Nat) (r4 : Nat) (r5 : Nat) (r6 : Nat) (r7 : Nat) (r8 : Nat) (r9 : Nat) (r10 : Nat) (s : MS) : List Value := [.ref r0, .int (s.1 1), .ref r2, .ref r3, .ref r4, .ref r5, .ref r6, .ref r7, .ref r8, .ref r9, .ref r10, .int (s.1 11), .int (s.1 12), .int (s.1 13)]
def wMn (K : Nat → ClassId) (h : Nat → Nat) (r0 : Nat) (r2 : Nat) (r3 : Nat) (r4 : Nat) (r5 : Nat) (r6 : Nat) (r7 : Nat) (r8 : Nat) (r9 : Nat) (r10 : Nat) (s : MS) : va_W := [(h 99, .inr (9, fsMn h r0 r2 r3 r4 r5 r6 r7 r8 r9 r10 s))]
def fsMo (h : Nat → Nat) (s : MS) : List Value := [.int (s.1 0), .ref (h 1), .int (s.1 2), .int (s.1 3), .int (s.1 4), .int (s.1 5), .int (s.1 6), .int (s.1 7), .int (s.1 8), .int (s.1 9), .int (s.1 10), .int (s.1 11), .ref (h 12), .int (s.1 13), .int (s.1 14), .ref (h 15), .ref (h 16), .ref (h 17), .ref (h 18), .ref (h 19), .ref (h 20), .int (s.1 21), .int (s.1 22), .ref (h 23), .ref (h 24), .ref (h 25), .int (s.1 26), .ref (h 27), .ref (h 28), .ref (h 29), .ref (h 30), .long (s.2.1 31), .long (s.2.1 32), .ref (h 33), .ref (h 34), .int (s.1 35), .int (s.1 36), .int (s.1 37), .int (s.1 38), .int (s.1 39), .int (s.1 40)]
def wMo (K : Nat → ClassId) (h : Nat → Nat) (s : MS) : va_W := [(h 99, .inr (10, fsMo h s)), (h 1, .inl (K 0, 800, .inl (s.2.2.1 1))), (h 12, .inl (K 0, 8, .inl (s.2.2.1 12))), (h 15, .inl (K 0, 300, .inl (s.2.2.1 15))), (h 16, .inl (K 0, 300, .inl (s.2.2.1 16))), (h 17, .inl (K 0, 9, .inl (s.2.2.1 17))), (h 18, .inl (K 0, 7, .inl (s.2.2.1 18))), (h 19, .inl (K 0, 84, .inl (s.2.2.1 19))), (h 20, .inl (K 0, 21, .inl (s.2.2.1 20))), (h 23, .inl (K 0, 369, .inl (s.2.2.1 23))), (h 24, .inl (K 0, 369, .inl (s.2.2.1 24))), (h 25, .inl (K 0, 3690, .inl (s.2.2.1 25))), (h 27, .inl (K 1, 369, .inr (.inl (s.2.2.2 27)))), (h 28, .inl (K 0, 369, .inl (s.2.2.1 28))), (h 29, .inl (K 0, 369, .inl (s.2.2.1 29))), (h 30, .inl (K 0, 9, .inl (s.2.2.1 30))), (h 33, .inl (K 0, 9, .inl (s.2.2.1 33))), (h 34, .inl (K 0, 9, .inl (s.2.2.1 34)))]
def wPc (K : Nat → ClassId) (h : Nat → Nat) (s : MS) : va_W := [(h 0, .inl (K 0, 41, .inl (s.2.2.1 0))), (h 1, .inl (K 0, 41, .inl (s.2.2.1 1))), (h 2, .inl (K 0, 41, .inl (s.2.2.1 2))), (h 3, .inl (K 0, 41, .inl (s.2.2.1 3))), (h 4, .inl (K 0, 41, .inl (s.2.2.1 4))), (h 5, .inl (K 0, 41, .inl (s.2.2.1 5))), (h 6, .inl (K 0, 41, .inl (s.2.2.1 6))), (h 7, .inl (K 0, 41, .inl (s.2.2.1 7))), (h 8, .inl (K 0, 41, .inl (s.2.2.1 8)))]
def wPb (K : Nat → ClassId) (h : Nat → Nat) (s : MS) : va_W := [(h 0, .inl (K 1, 41, .inr (.inl (s.2.2.2 0)))), (h 1, .inl (K 1, 41, .inr (.inl (s.2.2.2 1)))), (h 2, .inl (K 1, 41, .inr (.inl (s.2.2.2 2)))), (h 3, .inl (K 1, 41, .inr (.inl (s.2.2.2 3)))), (h 4, .inl (K 1, 41, .inr (.inl (s.2.2.2 4)))), (h 5, .inl (K 1, 41, .inr (.inl (s.2.2.2 5)))), (h 6, .inl (K 1, 41, .inr (.inl (s.2.2.2 6)))), (h 7, .inl (K 1, 41, .inr (.inl (s.2.2.2 7)))), (h 8, .inl (K 1, 41, .inr (.inl (s.2.2.2 8)))), (h 9, .inl (K 1, 41, .inr (.inl (s.2.2.2 9))))]
def wNc (K : Nat → ClassId) (h : Nat → Nat) (s : MS) : va_W := [(h 0, .inl (K 0, 41, .inl (s.2.2.1 0))), (h 1, .inl (K 0, 41, .inl (s.2.2.1 1))), (h 2, .inl (K 0, 41, .inl (s.2.2.1 2))), (h 3, .inl (K 0, 41, .inl (s.2.2.1 3))), (h 4, .inl (K 0, 41, .inl (s.2.2.1 4))), (h 5, .inl (K 0, 41, .inl (s.2.2.1 5))), (h 6, .inl (K 0, 41, .inl (s.2.2.1 6))), (h 7, .inl (K 0, 41, .inl (s.2.2.1 7))), (h 8, .inl (K 0, 41, .inl (s.2.2.1 8)))]
def wJk (K : Nat → ClassId) (h : Nat → Nat) (s : MS) : va_W := [(h 0, .inl (K 0, 7, .inl (s.2.2.1 0))), (h 1, .inl (K 0, 7, .inl (s.2.2.1 1))), (h 2, .inl (K 0, 7, .inl (s.2.2.1 2))), (h 3, .inl (K 0, 7, .inl (s.2.2.1 3))), (h 4, .inl (K 0, 7, .inl (s.2.2.1 4))), (h 5, .inl (K 0, 7, .inl (s.2.2.1 5))), (h 6, .inl (K 0, 7, .inl (s.2.2.1 6))), (h 7, .inl (K 0, 7, .inl (s.2.2.1 7))), (h 8, .inl (K 0, 7, .inl (s.2.2.1 8))), (h 9, .inl (K 0, 7, .inl (s.2.2.1 9))), (h 10, .inl (K 0, 7, .inl (s.2.2.1 10))), (h 11, .inl (K 0, 7, .inl (s.2.2.1 11)))]
def wJi (K : Nat → ClassId) (h : Nat → Nat) (s : MS) : va_W := [(h 0, .inl (K 0, 7, .inl (s.2.2.1 0))), (h 1, .inl (K 0, 7, .inl (s.2.2.1 1))), (h 2, .inl (K 0, 7, .inl (s.2.2.1 2)))]
theorem cvP {D : va_G} {cl : List vw_C} {a b : va_W} {H : Heap} (e : a = b) (h : va_P D cl a H) : va_P D cl b H := e ▸ h
theorem cvD {A : Nat → Prop} {a b : va_W} (e : a = b) (h : va_D A a) : va_D A b := e ▸ h
theorem lnA {a b : va_W} {n m : Nat} (h1 : a.length = n) (h2 : b.length = m) : (a ++ b).length = n + m := by rw [List.length_append, h1, h2]
def wAI (K : Nat → ClassId) (a n : Nat) (f : Nat → Int32) : va_W := [(a, .inl (K 0, n, .inl f))]
theorem ln_AI {K : Nat → ClassId} {a n : Nat} {f : Nat → Int32} : (wAI K a n f).length = 1 := rfl
theorem o_AI {K : Nat → ClassId} {a n : Nat} {f : Nat → Int32} : (wAI K a n f)[0]? = some (a, .inl (K 0, n, .inl f)) := rfl
theorem s_AI {K : Nat → ClassId} {a n : Nat} {f g : Nat → Int32} : (wAI K a n f).set 0 (a, .inl (K 0, n, .inl g)) = wAI K a n g := rfl
def wAJ (K : Nat → ClassId) (a n : Nat) (f : Nat → Int64) : va_W := [(a, .inl (K 1, n, .inr (.inl f)))]
theorem ln_AJ {K : Nat → ClassId} {a n : Nat} {f : Nat → Int64} : (wAJ K a n f).length = 1 := rfl
theorem o_AJ {K : Nat → ClassId} {a n : Nat} {f : Nat → Int64} : (wAJ K a n f)[0]? = some (a, .inl (K 1, n, .inr (.inl f))) := rfl
theorem s_AJ {K : Nat → ClassId} {a n : Nat} {f g : Nat → Int64} : (wAJ K a n f).set 0 (a, .inl (K 1, n, .inr (.inl g))) = wAJ K a n g := rfl
def wAB (K : Nat → ClassId) (a n : Nat) (f : Nat → Int32) : va_W := [(a, .inl (K 2, n, .inl f))]
theorem ln_AB {K : Nat → ClassId} {a n : Nat} {f : Nat → Int32} : (wAB K a n f).length = 1 := rfl
theorem o_AB {K : Nat → ClassId} {a n : Nat} {f : Nat → Int32} : (wAB K a n f)[0]? = some (a, .inl (K 2, n, .inl f)) := rfl
theorem s_AB {K : Nat → ClassId} {a n : Nat} {f g : Nat → Int32} : (wAB K a n f).set 0 (a, .inl (K 2, n, .inl g)) = wAB K a n g := rfl
theorem ln_Ro {K : Nat → ClassId} {h : Nat → Nat} {s : MS} : (wRo K h s).length = 10 := rfl
theorem o_Ro {K : Nat → ClassId} {h : Nat → Nat} {s : MS} : (wRo K h s)[0]? = some (h 99, .inr (8, fsRo h s)) := rfl
theorem si_Ro_0 {K : Nat → ClassId} {h : Nat → Nat} {s : MS} {v : Int32} : (wRo K h s).set 0 (h 99, .inr (8, (fsRo h s).set 0 (.int v))) = wRo K h (sI s 0 v) := rfl
theorem si_Ro_1 {K : Nat → ClassId} {h : Nat → Nat} {s : MS} {v : Int32} : (wRo K h s).set 0 (h 99, .inr (8, (fsRo h s).set 1 (.int v))) = wRo K h (sI s 1 v) := rfl
theorem si_Ro_2 {K : Nat → ClassId} {h : Nat → Nat} {s : MS} {v : Int32} : (wRo K h s).set 0 (h 99, .inr (8, (fsRo h s).set 2 (.int v))) = wRo K h (sI s 2 v) := rfl
theorem si_Ro_3 {K : Nat → ClassId} {h : Nat → Nat} {s : MS} {v : Int32} : (wRo K h s).set 0 (h 99, .inr (8, (fsRo h s).set 3 (.int v))) = wRo K h (sI s 3 v) := rfl
theorem si_Ro_4 {K : Nat → ClassId} {h : Nat → Nat} {s : MS} {v : Int32} : (wRo K h s).set 0 (h 99, .inr (8, (fsRo h s).set 4 (.int v))) = wRo K h (sI s 4 v) := rfl
theorem si_Ro_5 {K : Nat → ClassId} {h : Nat → Nat} {s : MS} {v : Int32} : (wRo K h s).set 0 (h 99, .inr (8, (fsRo h s).set 5 (.int v))) = wRo K h (sI s 5 v) := rfl
theorem si_Ro_6 {K : Nat → ClassId} {h : Nat → Nat} {s : MS} {v : Int32} : (wRo K h s).set 0 (h 99, .inr (8, (fsRo h s).set 6 (.int v))) = wRo K h (sI s 6 v) := rfl
theorem si_Ro_7 {K : Nat → ClassId} {h : Nat → Nat} {s : MS} {v : Int32} : (wRo K h s).set 0 (h 99, .inr (8, (fsRo h s).set 7 (.int v))) = wRo K h (sI s 7 v) := rfl
theorem si_Ro_8 {K : Nat → ClassId} {h : Nat → Nat} {s : MS} {v : Int32} : (wRo K h s).set 0 (h 99, .inr (8, (fsRo h s).set 8 (.int v))) = wRo K h (sI s 8 v) := rfl
theorem si_Ro_9 {K : Nat → ClassId} {h : Nat → Nat} {s : MS} {v : Int32} : (wRo K h s).set 0 (h 99, .inr (8, (fsRo h s).set 9 (.int v))) = wRo K h (sI s 9 v) := rfl
theorem a_Ro_10 {K : Nat → ClassId} {h : Nat → Nat} {s : MS} : (wRo K h s)[1]? = some (h 10, .inl (K 0, 81, .inl (s.2.2.1 10))) := rfl
theorem sa_Ro_10 {K : Nat → ClassId} {h : Nat → Nat} {s : MS} {g : Nat → Int32} : (wRo K h s).set 1 (h 10, .inl (K 0, 81, .inl g)) = wRo K h (wA s 10 g) := rfl
theorem a_Ro_11 {K : Nat → ClassId} {h : Nat → Nat} {s : MS} : (wRo K h s)[2]? = some (h 11, .inl (K 0, 81, .inl (s.2.2.1 11))) := rfl
theorem sa_Ro_11 {K : Nat → ClassId} {h : Nat → Nat} {s : MS} {g : Nat → Int32} : (wRo K h s).set 2 (h 11, .inl (K 0, 81, .inl g)) = wRo K h (wA s 11 g) := rfl
theorem a_Ro_12 {K : Nat → ClassId} {h : Nat → Nat} {s : MS} : (wRo K h s)[3]? = some (h 12, .inl (K 0, 9, .inl (s.2.2.1 12))) := rfl
theorem sa_Ro_12 {K : Nat → ClassId} {h : Nat → Nat} {s : MS} {g : Nat → Int32} : (wRo K h s).set 3 (h 12, .inl (K 0, 9, .inl g)) = wRo K h (wA s 12 g) := rfl
theorem a_Ro_13 {K : Nat → ClassId} {h : Nat → Nat} {s : MS} : (wRo K h s)[4]? = some (h 13, .inl (K 0, 9, .inl (s.2.2.1 13))) := rfl
theorem sa_Ro_13 {K : Nat → ClassId} {h : Nat → Nat} {s : MS} {g : Nat → Int32} : (wRo K h s).set 4 (h 13, .inl (K 0, 9, .inl g)) = wRo K h (wA s 13 g) := rfl
theorem a_Ro_14 {K : Nat → ClassId} {h : Nat → Nat} {s : MS} : (wRo K h s)[5]? = some (h 14, .inl (K 0, 9, .inl (s.2.2.1 14))) := rfl
theorem sa_Ro_14 {K : Nat → ClassId} {h : Nat → Nat} {s : MS} {g : Nat → Int32} : (wRo K h s).set 5 (h 14, .inl (K 0, 9, .inl g)) = wRo K h (wA s 14 g) := rfl
theorem a_Ro_15 {K : Nat → ClassId} {h : Nat → Nat} {s : MS} : (wRo K h s)[6]? = some (h 15, .inl (K 0, 9, .inl (s.2.2.1 15))) := rfl
theorem sa_Ro_15 {K : Nat → ClassId} {h : Nat → Nat} {s : MS} {g : Nat → Int32} : (wRo K h s).set 6 (h 15, .inl (K 0, 9, .inl g)) = wRo K h (wA s 15 g) := rfl
theorem a_Ro_16 {K : Nat → ClassId} {h : Nat → Nat} {s : MS} : (wRo K h s)[7]? = some (h 16, .inl (K 0, 9, .inl (s.2.2.1 16))) := rfl
theorem sa_Ro_16 {K : Nat → ClassId} {h : Nat → Nat} {s : MS} {g : Nat → Int32} : (wRo K h s).set 7 (h 16, .inl (K 0, 9, .inl g)) = wRo K h (wA s 16 g) := rfl
theorem a_Ro_17 {K : Nat → ClassId} {h : Nat → Nat} {s : MS} : (wRo K h s)[8]? = some (h 17, .inl (K 0, 5, .inl (s.2.2.1 17))) := rfl
theorem sa_Ro_17 {K : Nat → ClassId} {h : Nat → Nat} {s : MS} {g : Nat → Int32} : (wRo K h s).set 8 (h 17, .inl (K 0, 5, .inl g)) = wRo K h (wA s 17 g) := rfl
theorem a_Ro_18 {K : Nat → ClassId} {h : Nat → Nat} {s : MS} : (wRo K h s)[9]? = some (h 18, .inl (K 0, 5, .inl (s.2.2.1 18))) := rfl
theorem sa_Ro_18 {K : Nat → ClassId} {h : Nat → Nat} {s : MS} {g : Nat → Int32} : (wRo K h s).set 9 (h 18, .inl (K 0, 5, .inl g)) = wRo K h (wA s 18 g) := rfl
theorem ln_Dw {K : Nat → ClassId} {h : Nat → Nat} {s : MS} : (wDw K h s).length = 1 := rfl
theorem o_Dw {K : Nat → ClassId} {h : Nat → Nat} {s : MS} : (wDw K h s)[0]? = some (h 99, .inr (0, fsDw h s)) := rfl
theorem si_Dw_0 {K : Nat → ClassId} {h : Nat → Nat} {s : MS} {v : Int32} : (wDw K h s).set 0 (h 99, .inr (0, (fsDw h s).set 0 (.int v))) = wDw K h (sI s 0 v) := rfl
theorem ln_Fr {K : Nat → ClassId} {h : Nat → Nat} {s : MS} : (wFr K h s).length = 1 := rfl
theorem o_Fr {K : Nat → ClassId} {h : Nat → Nat} {s : MS} : (wFr K h s)[0]? = some (h 99, .inr (2, fsFr h s)) := rfl
theorem si_Fr_0 {K : Nat → ClassId} {h : Nat → Nat} {s : MS} {v : Int64} : (wFr K h s).set 0 (h 99, .inr (2, (fsFr h s).set 0 (.long v))) = wFr K h (sL s 0 v) := rfl
theorem si_Fr_1 {K : Nat → ClassId} {h : Nat → Nat} {s : MS} {v : Int64} : (wFr K h s).set 0 (h 99, .inr (2, (fsFr h s).set 1 (.long v))) = wFr K h (sL s 1 v) := rfl
theorem ln_Dr {K : Nat → ClassId} {h : Nat → Nat} {r1 : Nat} {r3 : Nat} {r4 : Nat} {s : MS} : (wDr K h r1 r3 r4 s).length = 2 := rfl
theorem o_Dr {K : Nat → ClassId} {h : Nat → Nat} {r1 : Nat} {r3 : Nat} {r4 : Nat} {s : MS} : (wDr K h r1 r3 r4 s)[0]? = some (h 99, .inr (1, fsDr h r1 r3 r4 s)) := rfl
theorem si_Dr_0 {K : Nat → ClassId} {h : Nat → Nat} {r1 : Nat} {r3 : Nat} {r4 : Nat} {s : MS} {v : Int32} : (wDr K h r1 r3 r4 s).set 0 (h 99, .inr (1, (fsDr h r1 r3 r4 s).set 0 (.int v))) = wDr K h r1 r3 r4 (sI s 0 v) := rfl
theorem si_Dr_1 {K : Nat → ClassId} {h : Nat → Nat} {r1 : Nat} {r3 : Nat} {r4 : Nat} {s : MS} {v : Nat} : (wDr K h r1 r3 r4 s).set 0 (h 99, .inr (1, (fsDr h r1 r3 r4 s).set 1 (.ref v))) = wDr K h v r3 r4 s := rfl
theorem si_Dr_3 {K : Nat → ClassId} {h : Nat → Nat} {r1 : Nat} {r3 : Nat} {r4 : Nat} {s : MS} {v : Nat} : (wDr K h r1 r3 r4 s).set 0 (h 99, .inr (1, (fsDr h r1 r3 r4 s).set 3 (.ref v))) = wDr K h r1 v r4 s := rfl
theorem si_Dr_4 {K : Nat → ClassId} {h : Nat → Nat} {r1 : Nat} {r3 : Nat} {r4 : Nat} {s : MS} {v : Nat} : (wDr K h r1 r3 r4 s).set 0 (h 99, .inr (1, (fsDr h r1 r3 r4 s).set 4 (.ref v))) = wDr K h r1 r3 v s := rfl
theorem si_Dr_5 {K : Nat → ClassId} {h : Nat → Nat} {r1 : Nat} {r3 : Nat} {r4 : Nat} {s : MS} {v : Int64} : (wDr K h r1 r3 r4 s).set 0 (h 99, .inr (1, (fsDr h r1 r3 r4 s).set 5 (.long v))) = wDr K h r1 r3 r4 (sL s 5 v) := rfl
theorem a_Dr_2 {K : Nat → ClassId} {h : Nat → Nat} {r1 : Nat} {r3 : Nat} {r4 : Nat} {s : MS} : (wDr K h r1 r3 r4 s)[1]? = some (h 2, .inl (K 1, 41, .inr (.inl (s.2.2.2 2)))) := rfl
theorem sa_Dr_2 {K : Nat → ClassId} {h : Nat → Nat} {r1 : Nat} {r3 : Nat} {r4 : Nat} {s : MS} {g : Nat → Int64} : (wDr K h r1 r3 r4 s).set 1 (h 2, .inl (K 1, 41, .inr (.inl g))) = wDr K h r1 r3 r4 (wB s 2 g) := rfl
theorem ln_Jo {K : Nat → ClassId} {h : Nat → Nat} {r6 : Nat} {g4 : Nat → Nat} {g5 : Nat → Nat} {s : MS} : (wJo K h r6 g4 g5 s).length = 4 := rfl
theorem o_Jo {K : Nat → ClassId} {h : Nat → Nat} {r6 : Nat} {g4 : Nat → Nat} {g5 : Nat → Nat} {s : MS} : (wJo K h r6 g4 g5 s)[0]? = some (h 99, .inr (3, fsJo h r6 s)) := rfl
theorem si_Jo_1 {K : Nat → ClassId} {h : Nat → Nat} {r6 : Nat} {g4 : Nat → Nat} {g5 : Nat → Nat} {s : MS} {v : Int32} : (wJo K h r6 g4 g5 s).set 0 (h 99, .inr (3, (fsJo h r6 s).set 1 (.int v))) = wJo K h r6 g4 g5 (sI s 1 v) := rfl
theorem si_Jo_2 {K : Nat → ClassId} {h : Nat → Nat} {r6 : Nat} {g4 : Nat → Nat} {g5 : Nat → Nat} {s : MS} {v : Int32} : (wJo K h r6 g4 g5 s).set 0 (h 99, .inr (3, (fsJo h r6 s).set 2 (.int v))) = wJo K h r6 g4 g5 (sI s 2 v) := rfl
theorem si_Jo_3 {K : Nat → ClassId} {h : Nat → Nat} {r6 : Nat} {g4 : Nat → Nat} {g5 : Nat → Nat} {s : MS} {v : Int32} : (wJo K h r6 g4 g5 s).set 0 (h 99, .inr (3, (fsJo h r6 s).set 3 (.int v))) = wJo K h r6 g4 g5 (sI s 3 v) := rfl
theorem si_Jo_6 {K : Nat → ClassId} {h : Nat → Nat} {r6 : Nat} {g4 : Nat → Nat} {g5 : Nat → Nat} {s : MS} {v : Nat} : (wJo K h r6 g4 g5 s).set 0 (h 99, .inr (3, (fsJo h r6 s).set 6 (.ref v))) = wJo K h v g4 g5 s := rfl
theorem a_Jo_0 {K : Nat → ClassId} {h : Nat → Nat} {r6 : Nat} {g4 : Nat → Nat} {g5 : Nat → Nat} {s : MS} : (wJo K h r6 g4 g5 s)[1]? = some (h 0, .inl (K 0, 7, .inl (s.2.2.1 0))) := rfl
theorem sa_Jo_0 {K : Nat → ClassId} {h : Nat → Nat} {r6 : Nat} {g4 : Nat → Nat} {g5 : Nat → Nat} {s : MS} {g : Nat → Int32} : (wJo K h r6 g4 g5 s).set 1 (h 0, .inl (K 0, 7, .inl g)) = wJo K h r6 g4 g5 (wA s 0 g) := rfl
theorem a_Jo_4 {K : Nat → ClassId} {h : Nat → Nat} {r6 : Nat} {g4 : Nat → Nat} {g5 : Nat → Nat} {s : MS} : (wJo K h r6 g4 g5 s)[2]? = some (h 4, .inl (K 3, 12, .inr (.inr (.inr (.inr (fun i => if i < 12 then some (g4 i) else none)))))) := rfl
theorem a_Jo_5 {K : Nat → ClassId} {h : Nat → Nat} {r6 : Nat} {g4 : Nat → Nat} {g5 : Nat → Nat} {s : MS} : (wJo K h r6 g4 g5 s)[3]? = some (h 5, .inl (K 3, 3, .inr (.inr (.inr (.inr (fun i => if i < 3 then some (g5 i) else none)))))) := rfl
theorem ln_Ne {K : Nat → ClassId} {h : Nat → Nat} {g0 : Nat → Nat} {s : MS} : (wNe K h g0 s).length = 4 := rfl
theorem o_Ne {K : Nat → ClassId} {h : Nat → Nat} {g0 : Nat → Nat} {s : MS} : (wNe K h g0 s)[0]? = some (h 99, .inr (4, fsNe h s)) := rfl
theorem a_Ne_0 {K : Nat → ClassId} {h : Nat → Nat} {g0 : Nat → Nat} {s : MS} : (wNe K h g0 s)[1]? = some (h 0, .inl (K 3, 9, .inr (.inr (.inr (.inr (fun i => if i < 9 then some (g0 i) else none)))))) := rfl
theorem a_Ne_1 {K : Nat → ClassId} {h : Nat → Nat} {g0 : Nat → Nat} {s : MS} : (wNe K h g0 s)[2]? = some (h 1, .inl (K 0, 41, .inl (s.2.2.1 1))) := rfl
theorem sa_Ne_1 {K : Nat → ClassId} {h : Nat → Nat} {g0 : Nat → Nat} {s : MS} {g : Nat → Int32} : (wNe K h g0 s).set 2 (h 1, .inl (K 0, 41, .inl g)) = wNe K h g0 (wA s 1 g) := rfl
theorem a_Ne_2 {K : Nat → ClassId} {h : Nat → Nat} {g0 : Nat → Nat} {s : MS} : (wNe K h g0 s)[3]? = some (h 2, .inl (K 0, 9, .inl (s.2.2.1 2))) := rfl
theorem sa_Ne_2 {K : Nat → ClassId} {h : Nat → Nat} {g0 : Nat → Nat} {s : MS} {g : Nat → Int32} : (wNe K h g0 s).set 3 (h 2, .inl (K 0, 9, .inl g)) = wNe K h g0 (wA s 2 g) := rfl
theorem ln_Pl {K : Nat → ClassId} {h : Nat → Nat} {g2 : Nat → Nat} {g3 : Nat → Nat} {s : MS} : (wPl K h g2 g3 s).length = 5 := rfl
theorem o_Pl {K : Nat → ClassId} {h : Nat → Nat} {g2 : Nat → Nat} {g3 : Nat → Nat} {s : MS} : (wPl K h g2 g3 s)[0]? = some (h 99, .inr (5, fsPl h s)) := rfl
theorem a_Pl_0 {K : Nat → ClassId} {h : Nat → Nat} {g2 : Nat → Nat} {g3 : Nat → Nat} {s : MS} : (wPl K h g2 g3 s)[1]? = some (h 0, .inl (K 0, 9, .inl (s.2.2.1 0))) := rfl
theorem sa_Pl_0 {K : Nat → ClassId} {h : Nat → Nat} {g2 : Nat → Nat} {g3 : Nat → Nat} {s : MS} {g : Nat → Int32} : (wPl K h g2 g3 s).set 1 (h 0, .inl (K 0, 9, .inl g)) = wPl K h g2 g3 (wA s 0 g) := rfl
theorem a_Pl_1 {K : Nat → ClassId} {h : Nat → Nat} {g2 : Nat → Nat} {g3 : Nat → Nat} {s : MS} : (wPl K h g2 g3 s)[2]? = some (h 1, .inl (K 1, 41, .inr (.inl (s.2.2.2 1)))) := rfl
theorem sa_Pl_1 {K : Nat → ClassId} {h : Nat → Nat} {g2 : Nat → Nat} {g3 : Nat → Nat} {s : MS} {g : Nat → Int64} : (wPl K h g2 g3 s).set 2 (h 1, .inl (K 1, 41, .inr (.inl g))) = wPl K h g2 g3 (wB s 1 g) := rfl
theorem a_Pl_2 {K : Nat → ClassId} {h : Nat → Nat} {g2 : Nat → Nat} {g3 : Nat → Nat} {s : MS} : (wPl K h g2 g3 s)[3]? = some (h 2, .inl (K 3, 9, .inr (.inr (.inr (.inr (fun i => if i < 9 then some (g2 i) else none)))))) := rfl
theorem a_Pl_3 {K : Nat → ClassId} {h : Nat → Nat} {g2 : Nat → Nat} {g3 : Nat → Nat} {s : MS} : (wPl K h g2 g3 s)[4]? = some (h 3, .inl (K 4, 10, .inr (.inr (.inr (.inr (fun i => if i < 10 then some (g3 i) else none)))))) := rfl
theorem ln_Rd {K : Nat → ClassId} {h : Nat → Nat} {r2 : Nat} {r4 : Nat} {s : MS} : (wRd K h r2 r4 s).length = 3 := rfl
theorem o_Rd {K : Nat → ClassId} {h : Nat → Nat} {r2 : Nat} {r4 : Nat} {s : MS} : (wRd K h r2 r4 s)[0]? = some (h 99, .inr (6, fsRd h r2 r4 s)) := rfl
theorem si_Rd_0 {K : Nat → ClassId} {h : Nat → Nat} {r2 : Nat} {r4 : Nat} {s : MS} {v : Int32} : (wRd K h r2 r4 s).set 0 (h 99, .inr (6, (fsRd h r2 r4 s).set 0 (.int v))) = wRd K h r2 r4 (sI s 0 v) := rfl
theorem si_Rd_1 {K : Nat → ClassId} {h : Nat → Nat} {r2 : Nat} {r4 : Nat} {s : MS} {v : Int32} : (wRd K h r2 r4 s).set 0 (h 99, .inr (6, (fsRd h r2 r4 s).set 1 (.int v))) = wRd K h r2 r4 (sI s 1 v) := rfl
theorem si_Rd_2 {K : Nat → ClassId} {h : Nat → Nat} {r2 : Nat} {r4 : Nat} {s : MS} {v : Nat} : (wRd K h r2 r4 s).set 0 (h 99, .inr (6, (fsRd h r2 r4 s).set 2 (.ref v))) = wRd K h v r4 s := rfl
theorem si_Rd_3 {K : Nat → ClassId} {h : Nat → Nat} {r2 : Nat} {r4 : Nat} {s : MS} {v : Int32} : (wRd K h r2 r4 s).set 0 (h 99, .inr (6, (fsRd h r2 r4 s).set 3 (.int v))) = wRd K h r2 r4 (sI s 3 v) := rfl
theorem si_Rd_4 {K : Nat → ClassId} {h : Nat → Nat} {r2 : Nat} {r4 : Nat} {s : MS} {v : Nat} : (wRd K h r2 r4 s).set 0 (h 99, .inr (6, (fsRd h r2 r4 s).set 4 (.ref v))) = wRd K h r2 v s := rfl
theorem si_Rd_5 {K : Nat → ClassId} {h : Nat → Nat} {r2 : Nat} {r4 : Nat} {s : MS} {v : Int32} : (wRd K h r2 r4 s).set 0 (h 99, .inr (6, (fsRd h r2 r4 s).set 5 (.int v))) = wRd K h r2 r4 (sI s 5 v) := rfl
theorem si_Rd_6 {K : Nat → ClassId} {h : Nat → Nat} {r2 : Nat} {r4 : Nat} {s : MS} {v : Int32} : (wRd K h r2 r4 s).set 0 (h 99, .inr (6, (fsRd h r2 r4 s).set 6 (.int v))) = wRd K h r2 r4 (sI s 6 v) := rfl
theorem si_Rd_7 {K : Nat → ClassId} {h : Nat → Nat} {r2 : Nat} {r4 : Nat} {s : MS} {v : Int32} : (wRd K h r2 r4 s).set 0 (h 99, .inr (6, (fsRd h r2 r4 s).set 7 (.int v))) = wRd K h r2 r4 (sI s 7 v) := rfl
theorem si_Rd_8 {K : Nat → ClassId} {h : Nat → Nat} {r2 : Nat} {r4 : Nat} {s : MS} {v : Int32} : (wRd K h r2 r4 s).set 0 (h 99, .inr (6, (fsRd h r2 r4 s).set 8 (.int v))) = wRd K h r2 r4 (sI s 8 v) := rfl
theorem a_Rd_9 {K : Nat → ClassId} {h : Nat → Nat} {r2 : Nat} {r4 : Nat} {s : MS} : (wRd K h r2 r4 s)[1]? = some (h 9, .inl (K 0, 9, .inl (s.2.2.1 9))) := rfl
theorem sa_Rd_9 {K : Nat → ClassId} {h : Nat → Nat} {r2 : Nat} {r4 : Nat} {s : MS} {g : Nat → Int32} : (wRd K h r2 r4 s).set 1 (h 9, .inl (K 0, 9, .inl g)) = wRd K h r2 r4 (wA s 9 g) := rfl
theorem a_Rd_10 {K : Nat → ClassId} {h : Nat → Nat} {r2 : Nat} {r4 : Nat} {s : MS} : (wRd K h r2 r4 s)[2]? = some (h 10, .inl (K 0, 9, .inl (s.2.2.1 10))) := rfl
theorem sa_Rd_10 {K : Nat → ClassId} {h : Nat → Nat} {r2 : Nat} {r4 : Nat} {s : MS} {g : Nat → Int32} : (wRd K h r2 r4 s).set 2 (h 10, .inl (K 0, 9, .inl g)) = wRd K h r2 r4 (wA s 10 g) := rfl
theorem ln_Re {K : Nat → ClassId} {h : Nat → Nat} {s : MS} : (wRe K h s).length = 3 := rfl
theorem o_Re {K : Nat → ClassId} {h : Nat → Nat} {s : MS} : (wRe K h s)[0]? = some (h 99, .inr (7, fsRe h s)) := rfl
theorem si_Re_0 {K : Nat → ClassId} {h : Nat → Nat} {s : MS} {v : Int32} : (wRe K h s).set 0 (h 99, .inr (7, (fsRe h s).set 0 (.int v))) = wRe K h (sI s 0 v) := rfl
theorem si_Re_1 {K : Nat → ClassId} {h : Nat → Nat} {s : MS} {v : Int32} : (wRe K h s).set 0 (h 99, .inr (7, (fsRe h s).set 1 (.int v))) = wRe K h (sI s 1 v) := rfl
theorem si_Re_2 {K : Nat → ClassId} {h : Nat → Nat} {s : MS} {v : Int32} : (wRe K h s).set 0 (h 99, .inr (7, (fsRe h s).set 2 (.int v))) = wRe K h (sI s 2 v) := rfl
theorem si_Re_3 {K : Nat → ClassId} {h : Nat → Nat} {s : MS} {v : Int64} : (wRe K h s).set 0 (h 99, .inr (7, (fsRe h s).set 3 (.long v))) = wRe K h (sL s 3 v) := rfl
theorem si_Re_5 {K : Nat → ClassId} {h : Nat → Nat} {s : MS} {v : Int32} : (wRe K h s).set 0 (h 99, .inr (7, (fsRe h s).set 5 (.int v))) = wRe K h (sI s 5 v) := rfl
theorem si_Re_6 {K : Nat → ClassId} {h : Nat → Nat} {s : MS} {v : Int32} : (wRe K h s).set 0 (h 99, .inr (7, (fsRe h s).set 6 (.int v))) = wRe K h (sI s 6 v) := rfl
theorem a_Re_4 {K : Nat → ClassId} {h : Nat → Nat} {s : MS} : (wRe K h s)[1]? = some (h 4, .inl (K 0, 9, .inl (s.2.2.1 4))) := rfl
theorem sa_Re_4 {K : Nat → ClassId} {h : Nat → Nat} {s : MS} {g : Nat → Int32} : (wRe K h s).set 1 (h 4, .inl (K 0, 9, .inl g)) = wRe K h (wA s 4 g) := rfl
theorem a_Re_7 {K : Nat → ClassId} {h : Nat → Nat} {s : MS} : (wRe K h s)[2]? = some (h 7, .inl (K 0, 9, .inl (s.2.2.1 7))) := rfl
theorem sa_Re_7 {K : Nat → ClassId} {h : Nat → Nat} {s : MS} {g : Nat → Int32} : (wRe K h s).set 2 (h 7, .inl (K 0, 9, .inl g)) = wRe K h (wA s 7 g) := rfl
theorem ln_Mn {K : Nat → ClassId} {h : Nat → Nat} {r0 : Nat} {r2 : Nat} {r3 : Nat} {r4 : Nat} {r5 : Nat} {r6 : Nat} {r7 : Nat} {r8 : Nat} {r9 : Nat} {r10 : Nat} {s : MS} : (wMn K h r0 r2 r3 r4 r5 r6 r7 r8 r9 r10 s).length = 1 := rfl
theorem o_Mn {K : Nat → ClassId} {h : Nat → Nat} {r0 : Nat} {r2 : Nat} {r3 : Nat} {r4 : Nat} {r5 : Nat} {r6 : Nat} {r7 : Nat} {r8 : Nat} {r9 : Nat} {r10 : Nat} {s : MS} : (wMn K h r0 r2 r3 r4 r5 r6 r7 r8 r9 r10 s)[0]? = some (h 99, .inr (9, fsMn h r0 r2 r3 r4 r5 r6 r7 r8 r9 r10 s)) := rfl
theorem si_Mn_0 {K : Nat → ClassId} {h : Nat → Nat} {r0 : Nat} {r2 : Nat} {r3 : Nat} {r4 : Nat} {r5 : Nat} {r6 : Nat} {r7 : Nat} {r8 : Nat} {r9 : Nat} {r10 : Nat} {s : MS} {v : Nat} : (wMn K h r0 r2 r3 r4 r5 r6 r7 r8 r9 r10 s).set 0 (h 99, .inr (9, (fsMn h r0 r2 r3 r4 r5 r6 r7 r8 r9 r10 s).set 0 (.ref v))) = wMn K h v r2 r3 r4 r5 r6 r7 r8 r9 r10 s := rfl
theorem si_Mn_1 {K : Nat → ClassId} {h : Nat → Nat} {r0 : Nat} {r2 : Nat} {r3 : Nat} {r4 : Nat} {r5 : Nat} {r6 : Nat} {r7 : Nat} {r8 : Nat} {r9 : Nat} {r10 : Nat} {s : MS} {v : Int32} : (wMn K h r0 r2 r3 r4 r5 r6 r7 r8 r9 r10 s).set 0 (h 99, .inr (9, (fsMn h r0 r2 r3 r4 r5 r6 r7 r8 r9 r10 s).set 1 (.int v))) = wMn K h r0 r2 r3 r4 r5 r6 r7 r8 r9 r10 (sI s 1 v) := rfl
theorem si_Mn_2 {K : Nat → ClassId} {h : Nat → Nat} {r0 : Nat} {r2 : Nat} {r3 : Nat} {r4 : Nat} {r5 : Nat} {r6 : Nat} {r7 : Nat} {r8 : Nat} {r9 : Nat} {r10 : Nat} {s : MS} {v : Nat} : (wMn K h r0 r2 r3 r4 r5 r6 r7 r8 r9 r10 s).set 0 (h 99, .inr (9, (fsMn h r0 r2 r3 r4 r5 r6 r7 r8 r9 r10 s).set 2 (.ref v))) = wMn K h r0 v r3 r4 r5 r6 r7 r8 r9 r10 s := rfl
theorem si_Mn_3 {K : Nat → ClassId} {h : Nat → Nat} {r0 : Nat} {r2 : Nat} {r3 : Nat} {r4 : Nat} {r5 : Nat} {r6 : Nat} {r7 : Nat} {r8 : Nat} {r9 : Nat} {r10 : Nat} {s : MS} {v : Nat} : (wMn K h r0 r2 r3 r4 r5 r6 r7 r8 r9 r10 s).set 0 (h 99, .inr (9, (fsMn h r0 r2 r3 r4 r5 r6 r7 r8 r9 r10 s).set 3 (.ref v))) = wMn K h r0 r2 v r4 r5 r6 r7 r8 r9 r10 s := rfl
theorem si_Mn_4 {K : Nat → ClassId} {h : Nat → Nat} {r0 : Nat} {r2 : Nat} {r3 : Nat} {r4 : Nat} {r5 : Nat} {r6 : Nat} {r7 : Nat} {r8 : Nat} {r9 : Nat} {r10 : Nat} {s : MS} {v : Nat} : (wMn K h r0 r2 r3 r4 r5 r6 r7 r8 r9 r10 s).set 0 (h 99, .inr (9, (fsMn h r0 r2 r3 r4 r5 r6 r7 r8 r9 r10 s).set 4 (.ref v))) = wMn K h r0 r2 r3 v r5 r6 r7 r8 r9 r10 s := rfl
theorem si_Mn_5 {K : Nat → ClassId} {h : Nat → Nat} {r0 : Nat} {r2 : Nat} {r3 : Nat} {r4 : Nat} {r5 : Nat} {r6 : Nat} {r7 : Nat} {r8 : Nat} {r9 : Nat} {r10 : Nat} {s : MS} {v : Nat} : (wMn K h r0 r2 r3 r4 r5 r6 r7 r8 r9 r10 s).set 0 (h 99, .inr (9, (fsMn h r0 r2 r3 r4 r5 r6 r7 r8 r9 r10 s).set 5 (.ref v))) = wMn K h r0 r2 r3 r4 v r6 r7 r8 r9 r10 s := rfl
theorem si_Mn_6 {K : Nat → ClassId} {h : Nat → Nat} {r0 : Nat} {r2 : Nat} {r3 : Nat} {r4 : Nat} {r5 : Nat} {r6 : Nat} {r7 : Nat} {r8 : Nat} {r9 : Nat} {r10 : Nat} {s : MS} {v : Nat} : (wMn K h r0 r2 r3 r4 r5 r6 r7 r8 r9 r10 s).set 0 (h 99, .inr (9, (fsMn h r0 r2 r3 r4 r5 r6 r7 r8 r9 r10 s).set 6 (.ref v))) = wMn K h r0 r2 r3 r4 r5 v r7 r8 r9 r10 s := rfl
theorem si_Mn_7 {K : Nat → ClassId} {h : Nat → Nat} {r0 : Nat} {r2 : Nat} {r3 : Nat} {r4 : Nat} {r5 : Nat} {r6 : Nat} {r7 : Nat} {r8 : Nat} {r9 : Nat} {r10 : Nat} {s : MS} {v : Nat} : (wMn K h r0 r2 r3 r4 r5 r6 r7 r8 r9 r10 s).set 0 (h 99, .inr (9, (fsMn h r0 r2 r3 r4 r5 r6 r7 r8 r9 r10 s).set 7 (.ref v))) = wMn K h r0 r2 r3 r4 r5 r6 v r8 r9 r10 s := rfl
theorem si_Mn_8 {K : Nat → ClassId} {h : Nat → Nat} {r0 : Nat} {r2 : Nat} {r3 : Nat} {r4 : Nat} {r5 : Nat} {r6 : Nat} {r7 : Nat} {r8 : Nat} {r9 : Nat} {r10 : Nat} {s : MS} {v : Nat} : (wMn K h r0 r2 r3 r4 r5 r6 r7 r8 r9 r10 s).set 0 (h 99, .inr (9, (fsMn h r0 r2 r3 r4 r5 r6 r7 r8 r9 r10 s).set 8 (.ref v))) = wMn K h r0 r2 r3 r4 r5 r6 r7 v r9 r10 s := rfl
theorem si_Mn_9 {K : Nat → ClassId} {h : Nat → Nat} {r0 : Nat} {r2 : Nat} {r3 : Nat} {r4 : Nat} {r5 : Nat} {r6 : Nat} {r7 : Nat} {r8 : Nat} {r9 : Nat} {r10 : Nat} {s : MS} {v : Nat} : (wMn K h r0 r2 r3 r4 r5 r6 r7 r8 r9 r10 s).set 0 (h 99, .inr (9, (fsMn h r0 r2 r3 r4 r5 r6 r7 r8 r9 r10 s).set 9 (.ref v))) = wMn K h r0 r2 r3 r4 r5 r6 r7 r8 v r10 s := rfl
theorem si_Mn_10 {K : Nat → ClassId} {h : Nat → Nat} {r0 : Nat} {r2 : Nat} {r3 : Nat} {r4 : Nat} {r5 : Nat} {r6 : Nat} {r7 : Nat} {r8 : Nat} {r9 : Nat} {r10 : Nat} {s : MS} {v : Nat} : (wMn K h r0 r2 r3 r4 r5 r6 r7 r8 r9 r10 s).set 0 (h 99, .inr (9, (fsMn h r0 r2 r3 r4 r5 r6 r7 r8 r9 r10 s).set 10 (.ref v))) = wMn K h r0 r2 r3 r4 r5 r6 r7 r8 r9 v s := rfl
theorem si_Mn_11 {K : Nat → ClassId} {h : Nat → Nat} {r0 : Nat} {r2 : Nat} {r3 : Nat} {r4 : Nat} {r5 : Nat} {r6 : Nat} {r7 : Nat} {r8 : Nat} {r9 : Nat} {r10 : Nat} {s : MS} {v : Int32} : (wMn K h r0 r2 r3 r4 r5 r6 r7 r8 r9 r10 s).set 0 (h 99, .inr (9, (fsMn h r0 r2 r3 r4 r5 r6 r7 r8 r9 r10 s).set 11 (.int v))) = wMn K h r0 r2 r3 r4 r5 r6 r7 r8 r9 r10 (sI s 11 v) := rfl
theorem si_Mn_12 {K : Nat → ClassId} {h : Nat → Nat} {r0 : Nat} {r2 : Nat} {r3 : Nat} {r4 : Nat} {r5 : Nat} {r6 : Nat} {r7 : Nat} {r8 : Nat} {r9 : Nat} {r10 : Nat} {s : MS} {v : Int32} : (wMn K h r0 r2 r3 r4 r5 r6 r7 r8 r9 r10 s).set 0 (h 99, .inr (9, (fsMn h r0 r2 r3 r4 r5 r6 r7 r8 r9 r10 s).set 12 (.int v))) = wMn K h r0 r2 r3 r4 r5 r6 r7 r8 r9 r10 (sI s 12 v) := rfl
theorem si_Mn_13 {K : Nat → ClassId} {h : Nat → Nat} {r0 : Nat} {r2 : Nat} {r3 : Nat} {r4 : Nat} {r5 : Nat} {r6 : Nat} {r7 : Nat} {r8 : Nat} {r9 : Nat} {r10 : Nat} {s : MS} {v : Int32} : (wMn K h r0 r2 r3 r4 r5 r6 r7 r8 r9 r10 s).set 0 (h 99, .inr (9, (fsMn h r0 r2 r3 r4 r5 r6 r7 r8 r9 r10 s).set 13 (.int v))) = wMn K h r0 r2 r3 r4 r5 r6 r7 r8 r9 r10 (sI s 13 v) := rfl
theorem ln_Mo {K : Nat → ClassId} {h : Nat → Nat} {s : MS} : (wMo K h s).length = 18 := rfl
theorem o_Mo {K : Nat → ClassId} {h : Nat → Nat} {s : MS} : (wMo K h s)[0]? = some (h 99, .inr (10, fsMo h s)) := rfl
theorem si_Mo_0 {K : Nat → ClassId} {h : Nat → Nat} {s : MS} {v : Int32} : (wMo K h s).set 0 (h 99, .inr (10, (fsMo h s).set 0 (.int v))) = wMo K h (sI s 0 v) := rfl
theorem si_Mo_2 {K : Nat → ClassId} {h : Nat → Nat} {s : MS} {v : Int32} : (wMo K h s).set 0 (h 99, .inr (10, (fsMo h s).set 2 (.int v))) = wMo K h (sI s 2 v) := rfl
theorem si_Mo_3 {K : Nat → ClassId} {h : Nat → Nat} {s : MS} {v : Int32} : (wMo K h s).set 0 (h 99, .inr (10, (fsMo h s).set 3 (.int v))) = wMo K h (sI s 3 v) := rfl
theorem si_Mo_4 {K : Nat → ClassId} {h : Nat → Nat} {s : MS} {v : Int32} : (wMo K h s).set 0 (h 99, .inr (10, (fsMo h s).set 4 (.int v))) = wMo K h (sI s 4 v) := rfl
theorem si_Mo_5 {K : Nat → ClassId} {h : Nat → Nat} {s : MS} {v : Int32} : (wMo K h s).set 0 (h 99, .inr (10, (fsMo h s).set 5 (.int v))) = wMo K h (sI s 5 v) := rfl
theorem si_Mo_6 {K : Nat → ClassId} {h : Nat → Nat} {s : MS} {v : Int32} : (wMo K h s).set 0 (h 99, .inr (10, (fsMo h s).set 6 (.int v))) = wMo K h (sI s 6 v) := rfl
theorem si_Mo_7 {K : Nat → ClassId} {h : Nat → Nat} {s : MS} {v : Int32} : (wMo K h s).set 0 (h 99, .inr (10, (fsMo h s).set 7 (.int v))) = wMo K h (sI s 7 v) := rfl
theorem si_Mo_8 {K : Nat → ClassId} {h : Nat → Nat} {s : MS} {v : Int32} : (wMo K h s).set 0 (h 99, .inr (10, (fsMo h s).set 8 (.int v))) = wMo K h (sI s 8 v) := rfl
theorem si_Mo_9 {K : Nat → ClassId} {h : Nat → Nat} {s : MS} {v : Int32} : (wMo K h s).set 0 (h 99, .inr (10, (fsMo h s).set 9 (.int v))) = wMo K h (sI s 9 v) := rfl
theorem si_Mo_10 {K : Nat → ClassId} {h : Nat → Nat} {s : MS} {v : Int32} : (wMo K h s).set 0 (h 99, .inr (10, (fsMo h s).set 10 (.int v))) = wMo K h (sI s 10 v) := rfl
theorem si_Mo_11 {K : Nat → ClassId} {h : Nat → Nat} {s : MS} {v : Int32} : (wMo K h s).set 0 (h 99, .inr (10, (fsMo h s).set 11 (.int v))) = wMo K h (sI s 11 v) := rfl
theorem si_Mo_13 {K : Nat → ClassId} {h : Nat → Nat} {s : MS} {v : Int32} : (wMo K h s).set 0 (h 99, .inr (10, (fsMo h s).set 13 (.int v))) = wMo K h (sI s 13 v) := rfl
theorem si_Mo_14 {K : Nat → ClassId} {h : Nat → Nat} {s : MS} {v : Int32} : (wMo K h s).set 0 (h 99, .inr (10, (fsMo h s).set 14 (.int v))) = wMo K h (sI s 14 v) := rfl
theorem si_Mo_21 {K : Nat → ClassId} {h : Nat → Nat} {s : MS} {v : Int32} : (wMo K h s).set 0 (h 99, .inr (10, (fsMo h s).set 21 (.int v))) = wMo K h (sI s 21 v) := rfl
theorem si_Mo_22 {K : Nat → ClassId} {h : Nat → Nat} {s : MS} {v : Int32} : (wMo K h s).set 0 (h 99, .inr (10, (fsMo h s).set 22 (.int v))) = wMo K h (sI s 22 v) := rfl
theorem si_Mo_26 {K : Nat → ClassId} {h : Nat → Nat} {s : MS} {v : Int32} : (wMo K h s).set 0 (h 99, .inr (10, (fsMo h s).set 26 (.int v))) = wMo K h (sI s 26 v) := rfl
theorem si_Mo_31 {K : Nat → ClassId} {h : Nat → Nat} {s : MS} {v : Int64} : (wMo K h s).set 0 (h 99, .inr (10, (fsMo h s).set 31 (.long v))) = wMo K h (sL s 31 v) := rfl
theorem si_Mo_32 {K : Nat → ClassId} {h : Nat → Nat} {s : MS} {v : Int64} : (wMo K h s).set 0 (h 99, .inr (10, (fsMo h s).set 32 (.long v))) = wMo K h (sL s 32 v) := rfl
theorem si_Mo_35 {K : Nat → ClassId} {h : Nat → Nat} {s : MS} {v : Int32} : (wMo K h s).set 0 (h 99, .inr (10, (fsMo h s).set 35 (.int v))) = wMo K h (sI s 35 v) := rfl
theorem si_Mo_36 {K : Nat → ClassId} {h : Nat → Nat} {s : MS} {v : Int32} : (wMo K h s).set 0 (h 99, .inr (10, (fsMo h s).set 36 (.int v))) = wMo K h (sI s 36 v) := rfl
theorem si_Mo_37 {K : Nat → ClassId} {h : Nat → Nat} {s : MS} {v : Int32} : (wMo K h s).set 0 (h 99, .inr (10, (fsMo h s).set 37 (.int v))) = wMo K h (sI s 37 v) := rfl
theorem si_Mo_38 {K : Nat → ClassId} {h : Nat → Nat} {s : MS} {v : Int32} : (wMo K h s).set 0 (h 99, .inr (10, (fsMo h s).set 38 (.int v))) = wMo K h (sI s 38 v) := rfl
theorem si_Mo_39 {K : Nat → ClassId} {h : Nat → Nat} {s : MS} {v : Int32} : (wMo K h s).set 0 (h 99, .inr (10, (fsMo h s).set 39 (.int v))) = wMo K h (sI s 39 v) := rfl
theorem si_Mo_40 {K : Nat → ClassId} {h : Nat → Nat} {s : MS} {v : Int32} : (wMo K h s).set 0 (h 99, .inr (10, (fsMo h s).set 40 (.int v))) = wMo K h (sI s 40 v) := rfl
theorem a_Mo_1 {K : Nat → ClassId} {h : Nat → Nat} {s : MS} : (wMo K h s)[1]? = some (h 1, .inl (K 0, 800, .inl (s.2.2.1 1))) := rfl
theorem sa_Mo_1 {K : Nat → ClassId} {h : Nat → Nat} {s : MS} {g : Nat → Int32} : (wMo K h s).set 1 (h 1, .inl (K 0, 800, .inl g)) = wMo K h (wA s 1 g) := rfl
theorem a_Mo_12 {K : Nat → ClassId} {h : Nat → Nat} {s : MS} : (wMo K h s)[2]? = some (h 12, .inl (K 0, 8, .inl (s.2.2.1 12))) := rfl
theorem sa_Mo_12 {K : Nat → ClassId} {h : Nat → Nat} {s : MS} {g : Nat → Int32} : (wMo K h s).set 2 (h 12, .inl (K 0, 8, .inl g)) = wMo K h (wA s 12 g) := rfl
theorem a_Mo_15 {K : Nat → ClassId} {h : Nat → Nat} {s : MS} : (wMo K h s)[3]? = some (h 15, .inl (K 0, 300, .inl (s.2.2.1 15))) := rfl
theorem sa_Mo_15 {K : Nat → ClassId} {h : Nat → Nat} {s : MS} {g : Nat → Int32} : (wMo K h s).set 3 (h 15, .inl (K 0, 300, .inl g)) = wMo K h (wA s 15 g) := rfl
theorem a_Mo_16 {K : Nat → ClassId} {h : Nat → Nat} {s : MS} : (wMo K h s)[4]? = some (h 16, .inl (K 0, 300, .inl (s.2.2.1 16))) := rfl
theorem sa_Mo_16 {K : Nat → ClassId} {h : Nat → Nat} {s : MS} {g : Nat → Int32} : (wMo K h s).set 4 (h 16, .inl (K 0, 300, .inl g)) = wMo K h (wA s 16 g) := rfl
theorem a_Mo_17 {K : Nat → ClassId} {h : Nat → Nat} {s : MS} : (wMo K h s)[5]? = some (h 17, .inl (K 0, 9, .inl (s.2.2.1 17))) := rfl
theorem sa_Mo_17 {K : Nat → ClassId} {h : Nat → Nat} {s : MS} {g : Nat → Int32} : (wMo K h s).set 5 (h 17, .inl (K 0, 9, .inl g)) = wMo K h (wA s 17 g) := rfl
theorem a_Mo_18 {K : Nat → ClassId} {h : Nat → Nat} {s : MS} : (wMo K h s)[6]? = some (h 18, .inl (K 0, 7, .inl (s.2.2.1 18))) := rfl
theorem sa_Mo_18 {K : Nat → ClassId} {h : Nat → Nat} {s : MS} {g : Nat → Int32} : (wMo K h s).set 6 (h 18, .inl (K 0, 7, .inl g)) = wMo K h (wA s 18 g) := rfl
theorem a_Mo_19 {K : Nat → ClassId} {h : Nat → Nat} {s : MS} : (wMo K h s)[7]? = some (h 19, .inl (K 0, 84, .inl (s.2.2.1 19))) := rfl
theorem sa_Mo_19 {K : Nat → ClassId} {h : Nat → Nat} {s : MS} {g : Nat → Int32} : (wMo K h s).set 7 (h 19, .inl (K 0, 84, .inl g)) = wMo K h (wA s 19 g) := rfl
theorem a_Mo_20 {K : Nat → ClassId} {h : Nat → Nat} {s : MS} : (wMo K h s)[8]? = some (h 20, .inl (K 0, 21, .inl (s.2.2.1 20))) := rfl
theorem sa_Mo_20 {K : Nat → ClassId} {h : Nat → Nat} {s : MS} {g : Nat → Int32} : (wMo K h s).set 8 (h 20, .inl (K 0, 21, .inl g)) = wMo K h (wA s 20 g) := rfl
theorem a_Mo_23 {K : Nat → ClassId} {h : Nat → Nat} {s : MS} : (wMo K h s)[9]? = some (h 23, .inl (K 0, 369, .inl (s.2.2.1 23))) := rfl
theorem sa_Mo_23 {K : Nat → ClassId} {h : Nat → Nat} {s : MS} {g : Nat → Int32} : (wMo K h s).set 9 (h 23, .inl (K 0, 369, .inl g)) = wMo K h (wA s 23 g) := rfl
theorem a_Mo_24 {K : Nat → ClassId} {h : Nat → Nat} {s : MS} : (wMo K h s)[10]? = some (h 24, .inl (K 0, 369, .inl (s.2.2.1 24))) := rfl
theorem sa_Mo_24 {K : Nat → ClassId} {h : Nat → Nat} {s : MS} {g : Nat → Int32} : (wMo K h s).set 10 (h 24, .inl (K 0, 369, .inl g)) = wMo K h (wA s 24 g) := rfl
theorem a_Mo_25 {K : Nat → ClassId} {h : Nat → Nat} {s : MS} : (wMo K h s)[11]? = some (h 25, .inl (K 0, 3690, .inl (s.2.2.1 25))) := rfl
theorem sa_Mo_25 {K : Nat → ClassId} {h : Nat → Nat} {s : MS} {g : Nat → Int32} : (wMo K h s).set 11 (h 25, .inl (K 0, 3690, .inl g)) = wMo K h (wA s 25 g) := rfl
theorem a_Mo_27 {K : Nat → ClassId} {h : Nat → Nat} {s : MS} : (wMo K h s)[12]? = some (h 27, .inl (K 1, 369, .inr (.inl (s.2.2.2 27)))) := rfl
theorem sa_Mo_27 {K : Nat → ClassId} {h : Nat → Nat} {s : MS} {g : Nat → Int64} : (wMo K h s).set 12 (h 27, .inl (K 1, 369, .inr (.inl g))) = wMo K h (wB s 27 g) := rfl
theorem a_Mo_28 {K : Nat → ClassId} {h : Nat → Nat} {s : MS} : (wMo K h s)[13]? = some (h 28, .inl (K 0, 369, .inl (s.2.2.1 28))) := rfl
theorem sa_Mo_28 {K : Nat → ClassId} {h : Nat → Nat} {s : MS} {g : Nat → Int32} : (wMo K h s).set 13 (h 28, .inl (K 0, 369, .inl g)) = wMo K h (wA s 28 g) := rfl
theorem a_Mo_29 {K : Nat → ClassId} {h : Nat → Nat} {s : MS} : (wMo K h s)[14]? = some (h 29, .inl (K 0, 369, .inl (s.2.2.1 29))) := rfl
theorem sa_Mo_29 {K : Nat → ClassId} {h : Nat → Nat} {s : MS} {g : Nat → Int32} : (wMo K h s).set 14 (h 29, .inl (K 0, 369, .inl g)) = wMo K h (wA s 29 g) := rfl
theorem a_Mo_30 {K : Nat → ClassId} {h : Nat → Nat} {s : MS} : (wMo K h s)[15]? = some (h 30, .inl (K 0, 9, .inl (s.2.2.1 30))) := rfl
theorem sa_Mo_30 {K : Nat → ClassId} {h : Nat → Nat} {s : MS} {g : Nat → Int32} : (wMo K h s).set 15 (h 30, .inl (K 0, 9, .inl g)) = wMo K h (wA s 30 g) := rfl
theorem a_Mo_33 {K : Nat → ClassId} {h : Nat → Nat} {s : MS} : (wMo K h s)[16]? = some (h 33, .inl (K 0, 9, .inl (s.2.2.1 33))) := rfl
theorem sa_Mo_33 {K : Nat → ClassId} {h : Nat → Nat} {s : MS} {g : Nat → Int32} : (wMo K h s).set 16 (h 33, .inl (K 0, 9, .inl g)) = wMo K h (wA s 33 g) := rfl
theorem a_Mo_34 {K : Nat → ClassId} {h : Nat → Nat} {s : MS} : (wMo K h s)[17]? = some (h 34, .inl (K 0, 9, .inl (s.2.2.1 34))) := rfl
theorem sa_Mo_34 {K : Nat → ClassId} {h : Nat → Nat} {s : MS} {g : Nat → Int32} : (wMo K h s).set 17 (h 34, .inl (K 0, 9, .inl g)) = wMo K h (wA s 34 g) := rfl
theorem ln_Pc {K : Nat → ClassId} {h : Nat → Nat} {s : MS} : (wPc K h s).length = 9 := rfl
theorem ln_Pb {K : Nat → ClassId} {h : Nat → Nat} {s : MS} : (wPb K h s).length = 10 := rfl
theorem ln_Nc {K : Nat → ClassId} {h : Nat → Nat} {s : MS} : (wNc K h s).length = 9 := rfl
theorem ln_Jk {K : Nat → ClassId} {h : Nat → Nat} {s : MS} : (wJk K h s).length = 12 := rfl
theorem ln_Ji {K : Nat → ClassId} {h : Nat → Nat} {s : MS} : (wJi K h s).length = 3 := rfl
theorem wPc_r {K : Nat → ClassId} {h : Nat → Nat} {s : MS} : ∀ (j : Nat), j < 9 → (wPc K h s)[j]? = some (h j, .inl (K 0, 41, .inl (s.2.2.1 j)))
  | 0, _ => rfl
  | 1, _ => rfl
  | 2, _ => rfl
  | 3, _ => rfl
  | 4, _ => rfl
  | 5, _ => rfl
  | 6, _ => rfl
  | 7, _ => rfl
  | 8, _ => rfl
  | j + 9, h9 => absurd h9 (by omega)
theorem wPc_w {K : Nat → ClassId} {h : Nat → Nat} {s : MS} {g : Nat → Int32} : ∀ (j : Nat), j < 9 → (wPc K h s).set j (h j, .inl (K 0, 41, .inl g)) = wPc K h (wA s j g)
  | 0, _ => rfl
  | 1, _ => rfl
  | 2, _ => rfl
  | 3, _ => rfl
  | 4, _ => rfl
  | 5, _ => rfl
  | 6, _ => rfl
  | 7, _ => rfl
  | 8, _ => rfl
  | j + 9, h9 => absurd h9 (by omega)
theorem wPb_r {K : Nat → ClassId} {h : Nat → Nat} {s : MS} : ∀ (j : Nat), j < 10 → (wPb K h s)[j]? = some (h j, .inl (K 1, 41, .inr (.inl (s.2.2.2 j))))
  | 0, _ => rfl
  | 1, _ => rfl
  | 2, _ => rfl
  | 3, _ => rfl
  | 4, _ => rfl
  | 5, _ => rfl
  | 6, _ => rfl
  | 7, _ => rfl
  | 8, _ => rfl
  | 9, _ => rfl
  | j + 10, h9 => absurd h9 (by omega)
theorem wPb_w {K : Nat → ClassId} {h : Nat → Nat} {s : MS} {g : Nat → Int64} : ∀ (j : Nat), j < 10 → (wPb K h s).set j (h j, .inl (K 1, 41, .inr (.inl g))) = wPb K h (wB s j g)
  | 0, _ => rfl
  | 1, _ => rfl
  | 2, _ => rfl
  | 3, _ => rfl
  | 4, _ => rfl
  | 5, _ => rfl
  | 6, _ => rfl
  | 7, _ => rfl
  | 8, _ => rfl
  | 9, _ => rfl
  | j + 10, h9 => absurd h9 (by omega)
theorem wNc_r {K : Nat → ClassId} {h : Nat → Nat} {s : MS} : ∀ (j : Nat), j < 9 → (wNc K h s)[j]? = some (h j, .inl (K 0, 41, .inl (s.2.2.1 j)))
  | 0, _ => rfl
  | 1, _ => rfl
  | 2, _ => rfl
  | 3, _ => rfl
  | 4, _ => rfl
  | 5, _ => rfl
  | 6, _ => rfl
  | 7, _ => rfl
  | 8, _ => rfl
  | j + 9, h9 => absurd h9 (by omega)
theorem wNc_w {K : Nat → ClassId} {h : Nat → Nat} {s : MS} {g : Nat → Int32} : ∀ (j : Nat), j < 9 → (wNc K h s).set j (h j, .inl (K 0, 41, .inl g)) = wNc K h (wA s j g)
  | 0, _ => rfl
  | 1, _ => rfl
  | 2, _ => rfl
  | 3, _ => rfl
  | 4, _ => rfl
  | 5, _ => rfl
  | 6, _ => rfl
  | 7, _ => rfl
  | 8, _ => rfl
  | j + 9, h9 => absurd h9 (by omega)
theorem wJk_r {K : Nat → ClassId} {h : Nat → Nat} {s : MS} : ∀ (j : Nat), j < 12 → (wJk K h s)[j]? = some (h j, .inl (K 0, 7, .inl (s.2.2.1 j)))
  | 0, _ => rfl
  | 1, _ => rfl
  | 2, _ => rfl
  | 3, _ => rfl
  | 4, _ => rfl
  | 5, _ => rfl
  | 6, _ => rfl
  | 7, _ => rfl
  | 8, _ => rfl
  | 9, _ => rfl
  | 10, _ => rfl
  | 11, _ => rfl
  | j + 12, h9 => absurd h9 (by omega)
theorem wJk_w {K : Nat → ClassId} {h : Nat → Nat} {s : MS} {g : Nat → Int32} : ∀ (j : Nat), j < 12 → (wJk K h s).set j (h j, .inl (K 0, 7, .inl g)) = wJk K h (wA s j g)
  | 0, _ => rfl
  | 1, _ => rfl
  | 2, _ => rfl
  | 3, _ => rfl
  | 4, _ => rfl
  | 5, _ => rfl
  | 6, _ => rfl
  | 7, _ => rfl
  | 8, _ => rfl
  | 9, _ => rfl
  | 10, _ => rfl
  | 11, _ => rfl
  | j + 12, h9 => absurd h9 (by omega)
theorem wJi_r {K : Nat → ClassId} {h : Nat → Nat} {s : MS} : ∀ (j : Nat), j < 3 → (wJi K h s)[j]? = some (h j, .inl (K 0, 7, .inl (s.2.2.1 j)))
  | 0, _ => rfl
  | 1, _ => rfl
  | 2, _ => rfl
  | j + 3, h9 => absurd h9 (by omega)
theorem wJi_w {K : Nat → ClassId} {h : Nat → Nat} {s : MS} {g : Nat → Int32} : ∀ (j : Nat), j < 3 → (wJi K h s).set j (h j, .inl (K 0, 7, .inl g)) = wJi K h (wA s j g)
  | 0, _ => rfl
  | 1, _ => rfl
  | 2, _ => rfl
  | j + 3, h9 => absurd h9 (by omega)
