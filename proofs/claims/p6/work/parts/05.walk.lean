/-! tt: what a frame comes to, said over a CLEAN heap (a function from addresses to cells), with one list of words for all methods (wsA). Each row of the kit gives a row of tt; what is said later is said of tt alone. -/
abbrev ch_H : Type := Nat → Option va_E
abbrev ch_M : Type := MethodName × ByteArray × Nat × Option FieldType
def ch_up (h : ch_H) (a : Nat) (e : va_E) : ch_H := fun q => if q = a then some e else h q
theorem ch_up_s (h : ch_H) (a : Nat) (e : va_E) : ch_up h a e a = some e := if_pos rfl
theorem ch_up_n (h : ch_H) {a q : Nat} (e : va_E) (n : q ≠ a) : ch_up h a e q = h q := if_neg n
/-- the heap holds the clean heap -/
def ch_r (D : va_G) (A : Nat → Prop) (h : ch_H) (H : Heap) : Prop := ∃ ws : va_W, (∀ (a : Nat) (e : va_E), h a = some e → ∃ k : Nat, ws[k]? = some (a, e)) ∧ va_P D vwCl ws H ∧ va_D A ws
/-- what stays over calls, of the heap below and of the tables -/
def ch_x (A : Nat → Prop) (X : State → Prop) : Prop := ∀ s U : State, s.WarmedH U.vm → va_F A s U → X s → X U
def ch_c (l : Launch) (D : va_G) (tys : List (ClassId × FieldType)) (A : Nat → Prop) (X : State → Prop) (M : ch_M) (p : Program) (s : State) (m : MethodId) (args : Array Value) (meth : Method) (cd : Code) : Prop :=
  p.tables.exec = Jvm.exec ∧ cd.code = M.2.1 ∧ meth.sig.returnType = M.2.2.2 ∧ cd.maxLocals = M.2.2.1 ∧ s.vm.findClass M.1.cls = some m.cls ∧ (∀ w ∈ wsA, w.before args s = true) ∧ va_K D vwCl tys s ∧ (∀ q, s.heap.size ≤ q → A q) ∧ meth.locks = false ∧ meth.name = M.1.name ∧ X s ∧ ch_x A X
def ch_q (D : va_G) (A : Nat → Prop) (Q : Option Value → ch_H → Prop) : Array Value → State → Outcome → State → Prop := fun _ st o t => (∃ (r : Option Value) (h : ch_H), o = .returned r ∧ ch_r D A h t.heap ∧ Q r h) ∧ va_F A st t
def ch_room (fr lo mc ms : Nat) : Room := { frames := fr, cells := mc, slots := ms, locals := lo }
def tt (l : Launch) (D : va_G) (tys : List (ClassId × FieldType)) (A : Nat → Prop) (X : State → Prop) (fr lo mc ms : Nat) (M : ch_M) (Q : Option Value → ch_H → Prop) (pc : Nat) (lv : List (Nat × Value)) (st : List Value) (h : ch_H) (c z : Nat) : Prop :=
  ∀ (p : Program) (e : Env) (s : State) (m : MethodId) (args : Array Value) (below : List Frame) (meth : Method) (cd : Code) (H : Heap) (locs : List Loc) (ls : Array Slot),
    ch_c l D tys A X M p s m args meth cd → lv_has ls M.2.2.1 lv → ch_r D A h H → va_S A s.heap H locs →
    W p l e (ch_room fr lo mc ms) s m args below meth cd H locs c z (MQ below (ch_q D A Q) args s mc ms A) (F0 m pc ls st)
/-- a local stored (one slot; two slots) -/
def ch_s1 (i : Nat) (v : Value) (lv : List (Nat × Value)) : List (Nat × Value) := (i, v) :: lv.filter (fun q => !(q.1 == i) && !(q.1 + 1 == i && q.2.category == 2))
def ch_s2 (i : Nat) (v : Value) (lv : List (Nat × Value)) : List (Nat × Value) := (i, v) :: lv.filter (fun q => !(q.1 == i) && (!(q.1 == i + 1) && !(q.1 + 1 == i && q.2.category == 2)))
/-- a class of the worlds: its number, name, fields, types -/
def ch_k (ci : Nat) (C : String) (T : u_T) (N : Nat) (ty : Nat → FieldType) : Prop := vwCl[ci]? = some (C, T, N) ∧ (∀ w ∈ u_ws C T N, w ∈ wsA) ∧ (∀ k, k < N → parseFieldDescriptor (T k).2.2.1 = some (ty k)) ∧ (∀ a, a < N → ∀ b, b < N → a ≠ b → (T a).2.1 ≠ (T b).2.1) ∧ ∀ k, k < N → (T k).1 = C
section
variable {D : va_G} {A : Nat → Prop} {h : ch_H} {H H1 : Heap}
theorem ch_r.at_ {a : Nat} {e : va_E} {ws : va_W} {q0 : Nat} {e0 : va_E} (h1 : ∀ (b : Nat) (x : va_E), h b = some x → ∃ k : Nat, ws[k]? = some (b, x)) (hq : ws[q0]? = some (a, e0)) (hP : va_P D vwCl (ws.set q0 (a, e)) H1) (hD : va_D A (ws.set q0 (a, e))) : ch_r D A (ch_up h a e) H1 := by
  refine ⟨ws.set q0 (a, e), fun b x hb => ?_, hP, hD⟩
  have hl : q0 < ws.length := (List.getElem?_eq_some_iff.mp hq).1
  by_cases hba : b = a
  · subst hba
    rw [ch_up_s] at hb
    cases hb
    exact ⟨q0, by simp [hl]⟩
  · rw [ch_up_n _ _ hba] at hb
    obtain ⟨k, hk⟩ := h1 b x hb
    refine ⟨k, ?_⟩
    have hne : q0 ≠ k := by
      intro q
      subst q
      rw [hq] at hk
      cases hk
      exact hba rfl
    rw [List.getElem?_set_ne hne]
    exact hk
theorem ch_r.new {a : Nat} {e : va_E} {ws : va_W} (h1 : ∀ (b : Nat) (x : va_E), h b = some x → ∃ k : Nat, ws[k]? = some (b, x)) (hP : va_P D vwCl (ws ++ [(a, e)]) H1) (hD : va_D A (ws ++ [(a, e)])) : h a = none ∧ ch_r D A (ch_up h a e) H1 := by
  have hlast : (ws ++ [(a, e)])[ws.length]? = some (a, e) := by simp
  have hno : h a = none := by
    cases hq : h a with
    | none => rfl
    | some x =>
      obtain ⟨k, hk⟩ := h1 a x hq
      have hkl : k < ws.length := (List.getElem?_eq_some_iff.mp hk).1
      have hk2 : (ws ++ [(a, e)])[k]? = some (a, x) := by rw [List.getElem?_append_left hkl]; exact hk
      have := hD.1 k ws.length _ _ hk2 hlast rfl
      omega
  refine ⟨hno, ws ++ [(a, e)], fun b x hb => ?_, hP, hD⟩
  by_cases hba : b = a
  · subst hba
    rw [ch_up_s] at hb
    cases hb
    exact ⟨ws.length, hlast⟩
  · rw [ch_up_n _ _ hba] at hb
    obtain ⟨k, hk⟩ := h1 b x hb
    have hkl : k < ws.length := (List.getElem?_eq_some_iff.mp hk).1
    exact ⟨k, by rw [List.getElem?_append_left hkl]; exact hk⟩
end
section
variable {l : Launch} {D : va_G} {tys : List (ClassId × FieldType)} {A : Nat → Prop} {X : State → Prop} {fr lo mc ms : Nat} {M : ch_M} {Q : Option Value → ch_H → Prop} {pc : Nat} {lv : List (Nat × Value)} {st : List Value} {h : ch_H} {c z : Nat}
theorem tt_iconst {n : Int} {v : Int32} (hv : Int32.ofInt n = v) (hd : decode M.2.1 pc = .ok (.iconst n, 1)) (k : tt l D tys A X fr lo mc ms M Q (pc + 1) lv (.int v :: st) h c z) : tt l D tys A X fr lo mc ms M Q pc lv st h c z :=
  fun p e s m args below meth cd H locs ls C hl hr hS => lv_iconst C.1 C.2.1 hd hv (k p e s m args below meth cd H locs ls C hl hr hS)
theorem tt_bipush {n : Int} {v : Int32} (hv : (Int8.ofInt n).toInt32 = v) (hd : decode M.2.1 pc = .ok (.bipush n, 2)) (k : tt l D tys A X fr lo mc ms M Q (pc + 2) lv (.int v :: st) h c z) : tt l D tys A X fr lo mc ms M Q pc lv st h c z :=
  fun p e s m args below meth cd H locs ls C hl hr hS => lv_bipush C.1 C.2.1 hd hv (k p e s m args below meth cd H locs ls C hl hr hS)
theorem tt_sipush {n : Int} {v : Int32} (hv : (Int16.ofInt n).toInt32 = v) (hd : decode M.2.1 pc = .ok (.sipush n, 3)) (k : tt l D tys A X fr lo mc ms M Q (pc + 3) lv (.int v :: st) h c z) : tt l D tys A X fr lo mc ms M Q pc lv st h c z :=
  fun p e s m args below meth cd H locs ls C hl hr hS => lv_sipush C.1 C.2.1 hd hv (k p e s m args below meth cd H locs ls C hl hr hS)
theorem tt_lconst {n : Fin 2} {v : Int64} (hv : Int64.ofNat (n : Nat) = v) (hd : decode M.2.1 pc = .ok (.lconst n, 1)) (k : tt l D tys A X fr lo mc ms M Q (pc + 1) lv (.long v :: st) h c z) : tt l D tys A X fr lo mc ms M Q pc lv st h c z :=
  fun p e s m args below meth cd H locs ls C hl hr hS => lv_lconst C.1 C.2.1 hd hv (k p e s m args below meth cd H locs ls C hl hr hS)
theorem tt_null  (hd : decode M.2.1 pc = .ok (.aconst_null, 1)) (k : tt l D tys A X fr lo mc ms M Q (pc + 1) lv (.null :: st) h c z) : tt l D tys A X fr lo mc ms M Q pc lv st h c z :=
  fun p e s m args below meth cd H locs ls C hl hr hS => lv_null C.1 C.2.1 hd  (k p e s m args below meth cd H locs ls C hl hr hS)
theorem tt_iload_n {k4 : Fin 4} {i : Nat} {x : Int32} (hi : (k4 : Nat) = i) (hm : (i, Value.int x) ∈ lv) (hd : decode M.2.1 pc = .ok (.iload_n k4, 1)) (k : tt l D tys A X fr lo mc ms M Q (pc + 1) lv (.int x :: st) h c z) : tt l D tys A X fr lo mc ms M Q pc lv st h c z :=
  fun p e s m args below meth cd H locs ls C hl hr hS => lv_iload_n C.1 C.2.1 hd hi (hl.2.2 (i, Value.int x) hm) (k p e s m args below meth cd H locs ls C hl hr hS)
theorem tt_iload {i : Nat} {x : Int32} (hm : (i, Value.int x) ∈ lv) (hd : decode M.2.1 pc = .ok (.iload i, 2)) (k : tt l D tys A X fr lo mc ms M Q (pc + 2) lv (.int x :: st) h c z) : tt l D tys A X fr lo mc ms M Q pc lv st h c z :=
  fun p e s m args below meth cd H locs ls C hl hr hS => lv_iload C.1 C.2.1 hd (hl.2.2 (i, Value.int x) hm) (k p e s m args below meth cd H locs ls C hl hr hS)
theorem tt_lload_n {k4 : Fin 4} {i : Nat} {x : Int64} (hi : (k4 : Nat) = i) (hm : (i, Value.long x) ∈ lv) (hd : decode M.2.1 pc = .ok (.lload_n k4, 1)) (k : tt l D tys A X fr lo mc ms M Q (pc + 1) lv (.long x :: st) h c z) : tt l D tys A X fr lo mc ms M Q pc lv st h c z :=
  fun p e s m args below meth cd H locs ls C hl hr hS => lv_lload_n C.1 C.2.1 hd hi (hl.2.2 (i, Value.long x) hm) (k p e s m args below meth cd H locs ls C hl hr hS)
theorem tt_lload {i : Nat} {x : Int64} (hm : (i, Value.long x) ∈ lv) (hd : decode M.2.1 pc = .ok (.lload i, 2)) (k : tt l D tys A X fr lo mc ms M Q (pc + 2) lv (.long x :: st) h c z) : tt l D tys A X fr lo mc ms M Q pc lv st h c z :=
  fun p e s m args below meth cd H locs ls C hl hr hS => lv_lload C.1 C.2.1 hd (hl.2.2 (i, Value.long x) hm) (k p e s m args below meth cd H locs ls C hl hr hS)
theorem tt_aload_n {k4 : Fin 4} {i : Nat} {x : Nat} (hi : (k4 : Nat) = i) (hm : (i, Value.ref x) ∈ lv) (hd : decode M.2.1 pc = .ok (.aload_n k4, 1)) (k : tt l D tys A X fr lo mc ms M Q (pc + 1) lv (.ref x :: st) h c z) : tt l D tys A X fr lo mc ms M Q pc lv st h c z :=
  fun p e s m args below meth cd H locs ls C hl hr hS => lv_aload_n C.1 C.2.1 hd hi (hl.2.2 (i, Value.ref x) hm) (k p e s m args below meth cd H locs ls C hl hr hS)
theorem tt_aload {i : Nat} {x : Nat} (hm : (i, Value.ref x) ∈ lv) (hd : decode M.2.1 pc = .ok (.aload i, 2)) (k : tt l D tys A X fr lo mc ms M Q (pc + 2) lv (.ref x :: st) h c z) : tt l D tys A X fr lo mc ms M Q pc lv st h c z :=
  fun p e s m args below meth cd H locs ls C hl hr hS => lv_aload C.1 C.2.1 hd (hl.2.2 (i, Value.ref x) hm) (k p e s m args below meth cd H locs ls C hl hr hS)
theorem tt_aload_nN {k4 : Fin 4} {i : Nat} (hi : (k4 : Nat) = i) (hm : (i, Value.null) ∈ lv) (hd : decode M.2.1 pc = .ok (.aload_n k4, 1)) (k : tt l D tys A X fr lo mc ms M Q (pc + 1) lv (.null :: st) h c z) : tt l D tys A X fr lo mc ms M Q pc lv st h c z :=
  fun p e s m args below meth cd H locs ls C hl hr hS => lv_aload_nN C.1 C.2.1 hd hi (hl.2.2 (i, Value.null) hm) (k p e s m args below meth cd H locs ls C hl hr hS)
theorem tt_aloadN {i : Nat} (hm : (i, Value.null) ∈ lv) (hd : decode M.2.1 pc = .ok (.aload i, 2)) (k : tt l D tys A X fr lo mc ms M Q (pc + 2) lv (.null :: st) h c z) : tt l D tys A X fr lo mc ms M Q pc lv st h c z :=
  fun p e s m args below meth cd H locs ls C hl hr hS => lv_aloadN C.1 C.2.1 hd (hl.2.2 (i, Value.null) hm) (k p e s m args below meth cd H locs ls C hl hr hS)
theorem tt_istore_n {k4 : Fin 4} {i : Nat} {x : Int32} (hi : (k4 : Nat) = i) (hd : decode M.2.1 pc = .ok (.istore_n k4, 1)) (hn : i < M.2.2.1) (k : tt l D tys A X fr lo mc ms M Q (pc + 1) (ch_s1 i (.int x) lv) st h c z) : tt l D tys A X fr lo mc ms M Q pc lv (.int x :: st) h c z :=
  fun p e s m args below meth cd H locs ls C hl hr hS => lv_istore_n C.1 C.2.1 hd hi hl hn rfl (fun ls hl => k p e s m args below meth cd H locs ls C hl hr hS)
theorem tt_istore {i : Nat} {x : Int32} (hd : decode M.2.1 pc = .ok (.istore i, 2)) (hn : i < M.2.2.1) (k : tt l D tys A X fr lo mc ms M Q (pc + 2) (ch_s1 i (.int x) lv) st h c z) : tt l D tys A X fr lo mc ms M Q pc lv (.int x :: st) h c z :=
  fun p e s m args below meth cd H locs ls C hl hr hS => lv_istore C.1 C.2.1 hd  hl hn rfl (fun ls hl => k p e s m args below meth cd H locs ls C hl hr hS)
theorem tt_lstore_n {k4 : Fin 4} {i : Nat} {x : Int64} (hi : (k4 : Nat) = i) (hd : decode M.2.1 pc = .ok (.lstore_n k4, 1)) (hn : i + 1 < M.2.2.1) (k : tt l D tys A X fr lo mc ms M Q (pc + 1) (ch_s2 i (.long x) lv) st h c z) : tt l D tys A X fr lo mc ms M Q pc lv (.long x :: st) h c z :=
  fun p e s m args below meth cd H locs ls C hl hr hS => lv_lstore_n C.1 C.2.1 hd hi hl hn rfl (fun ls hl => k p e s m args below meth cd H locs ls C hl hr hS)
theorem tt_lstore {i : Nat} {x : Int64} (hd : decode M.2.1 pc = .ok (.lstore i, 2)) (hn : i + 1 < M.2.2.1) (k : tt l D tys A X fr lo mc ms M Q (pc + 2) (ch_s2 i (.long x) lv) st h c z) : tt l D tys A X fr lo mc ms M Q pc lv (.long x :: st) h c z :=
  fun p e s m args below meth cd H locs ls C hl hr hS => lv_lstore C.1 C.2.1 hd  hl hn rfl (fun ls hl => k p e s m args below meth cd H locs ls C hl hr hS)
theorem tt_astore_n {k4 : Fin 4} {i : Nat} {x : Nat} (hi : (k4 : Nat) = i) (hd : decode M.2.1 pc = .ok (.astore_n k4, 1)) (hn : i < M.2.2.1) (k : tt l D tys A X fr lo mc ms M Q (pc + 1) (ch_s1 i (.ref x) lv) st h c z) : tt l D tys A X fr lo mc ms M Q pc lv (.ref x :: st) h c z :=
  fun p e s m args below meth cd H locs ls C hl hr hS => lv_astore_n C.1 C.2.1 hd hi hl hn rfl (fun ls hl => k p e s m args below meth cd H locs ls C hl hr hS)
theorem tt_astore {i : Nat} {x : Nat} (hd : decode M.2.1 pc = .ok (.astore i, 2)) (hn : i < M.2.2.1) (k : tt l D tys A X fr lo mc ms M Q (pc + 2) (ch_s1 i (.ref x) lv) st h c z) : tt l D tys A X fr lo mc ms M Q pc lv (.ref x :: st) h c z :=
  fun p e s m args below meth cd H locs ls C hl hr hS => lv_astore C.1 C.2.1 hd  hl hn rfl (fun ls hl => k p e s m args below meth cd H locs ls C hl hr hS)
theorem tt_astore_nN {k4 : Fin 4} {i : Nat} (hi : (k4 : Nat) = i) (hd : decode M.2.1 pc = .ok (.astore_n k4, 1)) (hn : i < M.2.2.1) (k : tt l D tys A X fr lo mc ms M Q (pc + 1) (ch_s1 i (.null) lv) st h c z) : tt l D tys A X fr lo mc ms M Q pc lv (.null :: st) h c z :=
  fun p e s m args below meth cd H locs ls C hl hr hS => lv_astore_nN C.1 C.2.1 hd hi hl hn rfl (fun ls hl => k p e s m args below meth cd H locs ls C hl hr hS)
theorem tt_astoreN {i : Nat} (hd : decode M.2.1 pc = .ok (.astore i, 2)) (hn : i < M.2.2.1) (k : tt l D tys A X fr lo mc ms M Q (pc + 2) (ch_s1 i (.null) lv) st h c z) : tt l D tys A X fr lo mc ms M Q pc lv (.null :: st) h c z :=
  fun p e s m args below meth cd H locs ls C hl hr hS => lv_astoreN C.1 C.2.1 hd  hl hn rfl (fun ls hl => k p e s m args below meth cd H locs ls C hl hr hS)
theorem tt_iinc {i : Nat} {n : Int} {x : Int32} (hd : decode M.2.1 pc = .ok (.iinc i n, 3)) (hm : (i, Value.int x) ∈ lv) (hn : i < M.2.2.1) (k : tt l D tys A X fr lo mc ms M Q (pc + 3) (ch_s1 i (.int (x + Int32.ofInt n)) lv) st h c z) : tt l D tys A X fr lo mc ms M Q pc lv st h c z := by
  intro p e s m args below meth cd H locs ls C hl hr hS
  obtain ⟨j, hj⟩ := List.getElem?_of_mem hm
  exact lv_iinc C.1 C.2.1 hd hl hj rfl hn rfl (fun ls hl => k p e s m args below meth cd H locs ls C hl hr hS)
theorem tt_iadd {x y : Int32} (hd : decode M.2.1 pc = .ok (.iadd, 1)) (k : tt l D tys A X fr lo mc ms M Q (pc + 1) lv (.int (x + y) :: st) h c z) : tt l D tys A X fr lo mc ms M Q pc lv (.int y :: .int x :: st) h c z :=
  fun p e s m args below meth cd H locs ls C hl hr hS => lv_iadd C.1 C.2.1 hd  (k p e s m args below meth cd H locs ls C hl hr hS)
theorem tt_isub {x y : Int32} (hd : decode M.2.1 pc = .ok (.isub, 1)) (k : tt l D tys A X fr lo mc ms M Q (pc + 1) lv (.int (x - y) :: st) h c z) : tt l D tys A X fr lo mc ms M Q pc lv (.int y :: .int x :: st) h c z :=
  fun p e s m args below meth cd H locs ls C hl hr hS => lv_isub C.1 C.2.1 hd  (k p e s m args below meth cd H locs ls C hl hr hS)
theorem tt_imul {x y : Int32} (hd : decode M.2.1 pc = .ok (.imul, 1)) (k : tt l D tys A X fr lo mc ms M Q (pc + 1) lv (.int (x * y) :: st) h c z) : tt l D tys A X fr lo mc ms M Q pc lv (.int y :: .int x :: st) h c z :=
  fun p e s m args below meth cd H locs ls C hl hr hS => lv_imul C.1 C.2.1 hd  (k p e s m args below meth cd H locs ls C hl hr hS)
theorem tt_iand {x y : Int32} (hd : decode M.2.1 pc = .ok (.iand, 1)) (k : tt l D tys A X fr lo mc ms M Q (pc + 1) lv (.int (x &&& y) :: st) h c z) : tt l D tys A X fr lo mc ms M Q pc lv (.int y :: .int x :: st) h c z :=
  fun p e s m args below meth cd H locs ls C hl hr hS => lv_iand C.1 C.2.1 hd  (k p e s m args below meth cd H locs ls C hl hr hS)
theorem tt_ior {x y : Int32} (hd : decode M.2.1 pc = .ok (.ior, 1)) (k : tt l D tys A X fr lo mc ms M Q (pc + 1) lv (.int (x ||| y) :: st) h c z) : tt l D tys A X fr lo mc ms M Q pc lv (.int y :: .int x :: st) h c z :=
  fun p e s m args below meth cd H locs ls C hl hr hS => lv_ior C.1 C.2.1 hd  (k p e s m args below meth cd H locs ls C hl hr hS)
theorem tt_ixor {x y : Int32} (hd : decode M.2.1 pc = .ok (.ixor, 1)) (k : tt l D tys A X fr lo mc ms M Q (pc + 1) lv (.int (x ^^^ y) :: st) h c z) : tt l D tys A X fr lo mc ms M Q pc lv (.int y :: .int x :: st) h c z :=
  fun p e s m args below meth cd H locs ls C hl hr hS => lv_ixor C.1 C.2.1 hd  (k p e s m args below meth cd H locs ls C hl hr hS)
theorem tt_ishl {x y : Int32} (hd : decode M.2.1 pc = .ok (.ishl, 1)) (k : tt l D tys A X fr lo mc ms M Q (pc + 1) lv (.int (x <<< (y &&& 31)) :: st) h c z) : tt l D tys A X fr lo mc ms M Q pc lv (.int y :: .int x :: st) h c z :=
  fun p e s m args below meth cd H locs ls C hl hr hS => lv_ishl C.1 C.2.1 hd  (k p e s m args below meth cd H locs ls C hl hr hS)
theorem tt_ishr {x y : Int32} (hd : decode M.2.1 pc = .ok (.ishr, 1)) (k : tt l D tys A X fr lo mc ms M Q (pc + 1) lv (.int (x >>> (y &&& 31)) :: st) h c z) : tt l D tys A X fr lo mc ms M Q pc lv (.int y :: .int x :: st) h c z :=
  fun p e s m args below meth cd H locs ls C hl hr hS => lv_ishr C.1 C.2.1 hd  (k p e s m args below meth cd H locs ls C hl hr hS)
theorem tt_iushr {x y : Int32} (hd : decode M.2.1 pc = .ok (.iushr, 1)) (k : tt l D tys A X fr lo mc ms M Q (pc + 1) lv (.int (x.toUInt32 >>> (y.toUInt32 &&& Int32.toUInt32 31)).toInt32 :: st) h c z) : tt l D tys A X fr lo mc ms M Q pc lv (.int y :: .int x :: st) h c z :=
  fun p e s m args below meth cd H locs ls C hl hr hS => lv_iushr C.1 C.2.1 hd rfl (k p e s m args below meth cd H locs ls C hl hr hS)
theorem tt_idiv {x y : Int32} (hne : ¬ y = 0) (hd : decode M.2.1 pc = .ok (.idiv, 1)) (k : tt l D tys A X fr lo mc ms M Q (pc + 1) lv (.int (x / y) :: st) h c z) : tt l D tys A X fr lo mc ms M Q pc lv (.int y :: .int x :: st) h c z :=
  fun p e s m args below meth cd H locs ls C hl hr hS => lv_idiv C.1 C.2.1 hd hne (k p e s m args below meth cd H locs ls C hl hr hS)
theorem tt_irem {x y : Int32} (hne : ¬ y = 0) (hd : decode M.2.1 pc = .ok (.irem, 1)) (k : tt l D tys A X fr lo mc ms M Q (pc + 1) lv (.int (x - x / y * y) :: st) h c z) : tt l D tys A X fr lo mc ms M Q pc lv (.int y :: .int x :: st) h c z :=
  fun p e s m args below meth cd H locs ls C hl hr hS => lv_irem C.1 C.2.1 hd hne (k p e s m args below meth cd H locs ls C hl hr hS)
theorem tt_ineg {x : Int32} (hd : decode M.2.1 pc = .ok (.ineg, 1)) (k : tt l D tys A X fr lo mc ms M Q (pc + 1) lv (.int (-x) :: st) h c z) : tt l D tys A X fr lo mc ms M Q pc lv (.int x :: st) h c z :=
  fun p e s m args below meth cd H locs ls C hl hr hS => lv_ineg C.1 C.2.1 hd  (k p e s m args below meth cd H locs ls C hl hr hS)
theorem tt_ladd {x y : Int64} (hd : decode M.2.1 pc = .ok (.ladd, 1)) (k : tt l D tys A X fr lo mc ms M Q (pc + 1) lv (.long (x + y) :: st) h c z) : tt l D tys A X fr lo mc ms M Q pc lv (.long y :: .long x :: st) h c z :=
  fun p e s m args below meth cd H locs ls C hl hr hS => lv_ladd C.1 C.2.1 hd  (k p e s m args below meth cd H locs ls C hl hr hS)
theorem tt_lsub {x y : Int64} (hd : decode M.2.1 pc = .ok (.lsub, 1)) (k : tt l D tys A X fr lo mc ms M Q (pc + 1) lv (.long (x - y) :: st) h c z) : tt l D tys A X fr lo mc ms M Q pc lv (.long y :: .long x :: st) h c z :=
  fun p e s m args below meth cd H locs ls C hl hr hS => lv_lsub C.1 C.2.1 hd  (k p e s m args below meth cd H locs ls C hl hr hS)
theorem tt_lmul {x y : Int64} (hd : decode M.2.1 pc = .ok (.lmul, 1)) (k : tt l D tys A X fr lo mc ms M Q (pc + 1) lv (.long (x * y) :: st) h c z) : tt l D tys A X fr lo mc ms M Q pc lv (.long y :: .long x :: st) h c z :=
  fun p e s m args below meth cd H locs ls C hl hr hS => lv_lmul C.1 C.2.1 hd  (k p e s m args below meth cd H locs ls C hl hr hS)
theorem tt_land {x y : Int64} (hd : decode M.2.1 pc = .ok (.land, 1)) (k : tt l D tys A X fr lo mc ms M Q (pc + 1) lv (.long (x &&& y) :: st) h c z) : tt l D tys A X fr lo mc ms M Q pc lv (.long y :: .long x :: st) h c z :=
  fun p e s m args below meth cd H locs ls C hl hr hS => lv_land C.1 C.2.1 hd  (k p e s m args below meth cd H locs ls C hl hr hS)
theorem tt_lor {x y : Int64} (hd : decode M.2.1 pc = .ok (.lor, 1)) (k : tt l D tys A X fr lo mc ms M Q (pc + 1) lv (.long (x ||| y) :: st) h c z) : tt l D tys A X fr lo mc ms M Q pc lv (.long y :: .long x :: st) h c z :=
  fun p e s m args below meth cd H locs ls C hl hr hS => lv_lor C.1 C.2.1 hd  (k p e s m args below meth cd H locs ls C hl hr hS)
theorem tt_ldiv {x y : Int64} (hne : ¬ y = 0) (hd : decode M.2.1 pc = .ok (.ldiv, 1)) (k : tt l D tys A X fr lo mc ms M Q (pc + 1) lv (.long (x / y) :: st) h c z) : tt l D tys A X fr lo mc ms M Q pc lv (.long y :: .long x :: st) h c z :=
  fun p e s m args below meth cd H locs ls C hl hr hS => lv_ldiv C.1 C.2.1 hd hne (k p e s m args below meth cd H locs ls C hl hr hS)
theorem tt_lrem {x y : Int64} (hne : ¬ y = 0) (hd : decode M.2.1 pc = .ok (.lrem, 1)) (k : tt l D tys A X fr lo mc ms M Q (pc + 1) lv (.long (x - x / y * y) :: st) h c z) : tt l D tys A X fr lo mc ms M Q pc lv (.long y :: .long x :: st) h c z :=
  fun p e s m args below meth cd H locs ls C hl hr hS => lv_lrem C.1 C.2.1 hd hne (k p e s m args below meth cd H locs ls C hl hr hS)
theorem tt_lushr {x : Int64} {y : Int32} (hd : decode M.2.1 pc = .ok (.lushr, 1)) (k : tt l D tys A X fr lo mc ms M Q (pc + 1) lv (.long (x.toUInt64 >>> (y.toInt64.toUInt64 &&& Int64.toUInt64 63)).toInt64 :: st) h c z) : tt l D tys A X fr lo mc ms M Q pc lv (.int y :: .long x :: st) h c z :=
  fun p e s m args below meth cd H locs ls C hl hr hS => lv_lushr C.1 C.2.1 hd rfl (k p e s m args below meth cd H locs ls C hl hr hS)
theorem tt_lshl {x : Int64} {y : Int32} (hd : decode M.2.1 pc = .ok (.lshl, 1)) (k : tt l D tys A X fr lo mc ms M Q (pc + 1) lv (.long (x <<< (y.toInt64 &&& 63)) :: st) h c z) : tt l D tys A X fr lo mc ms M Q pc lv (.int y :: .long x :: st) h c z :=
  fun p e s m args below meth cd H locs ls C hl hr hS => lv_lshl C.1 C.2.1 hd rfl (k p e s m args below meth cd H locs ls C hl hr hS)
theorem tt_lcmp {x y : Int64} (hd : decode M.2.1 pc = .ok (.lcmp, 1)) (k : tt l D tys A X fr lo mc ms M Q (pc + 1) lv (.int (lg_cmp x y) :: st) h c z) : tt l D tys A X fr lo mc ms M Q pc lv (.long y :: .long x :: st) h c z :=
  fun p e s m args below meth cd H locs ls C hl hr hS => W.lcmp C.1 C.2.1 hd  (k p e s m args below meth cd H locs ls C hl hr hS)
theorem tt_i2l {x : Int32} (hd : decode M.2.1 pc = .ok (.i2l, 1)) (k : tt l D tys A X fr lo mc ms M Q (pc + 1) lv (.long x.toInt64 :: st) h c z) : tt l D tys A X fr lo mc ms M Q pc lv (.int x :: st) h c z :=
  fun p e s m args below meth cd H locs ls C hl hr hS => lv_i2l C.1 C.2.1 hd rfl (k p e s m args below meth cd H locs ls C hl hr hS)
theorem tt_l2i {x : Int64} (hd : decode M.2.1 pc = .ok (.l2i, 1)) (k : tt l D tys A X fr lo mc ms M Q (pc + 1) lv (.int x.toInt32 :: st) h c z) : tt l D tys A X fr lo mc ms M Q pc lv (.long x :: st) h c z :=
  fun p e s m args below meth cd H locs ls C hl hr hS => lv_l2i C.1 C.2.1 hd rfl (k p e s m args below meth cd H locs ls C hl hr hS)
theorem tt_i2b {x : Int32} (hd : decode M.2.1 pc = .ok (.i2b, 1)) (k : tt l D tys A X fr lo mc ms M Q (pc + 1) lv (.int x.toInt8.toInt32 :: st) h c z) : tt l D tys A X fr lo mc ms M Q pc lv (.int x :: st) h c z :=
  fun p e s m args below meth cd H locs ls C hl hr hS => lv_i2b C.1 C.2.1 hd rfl (k p e s m args below meth cd H locs ls C hl hr hS)
theorem tt_i2c {x : Int32} (hd : decode M.2.1 pc = .ok (.i2c, 1)) (k : tt l D tys A X fr lo mc ms M Q (pc + 1) lv (.int (x.toUInt32 % 65536).toInt32 :: st) h c z) : tt l D tys A X fr lo mc ms M Q pc lv (.int x :: st) h c z :=
  fun p e s m args below meth cd H locs ls C hl hr hS => lv_i2c C.1 C.2.1 hd rfl (k p e s m args below meth cd H locs ls C hl hr hS)
theorem tt_dup {a : Value} (ha : a.category = 1) (hd : decode M.2.1 pc = .ok (.dup, 1)) (k : tt l D tys A X fr lo mc ms M Q (pc + 1) lv (a :: a :: st) h c z) : tt l D tys A X fr lo mc ms M Q pc lv (a :: st) h c z :=
  fun p e s m args below meth cd H locs ls C hl hr hS => lv_dup C.1 C.2.1 hd ha (k p e s m args below meth cd H locs ls C hl hr hS)
theorem tt_pop {a : Value} (ha : a.category = 1) (hd : decode M.2.1 pc = .ok (.pop, 1)) (k : tt l D tys A X fr lo mc ms M Q (pc + 1) lv st h c z) : tt l D tys A X fr lo mc ms M Q pc lv (a :: st) h c z :=
  fun p e s m args below meth cd H locs ls C hl hr hS => lv_pop C.1 C.2.1 hd ha (k p e s m args below meth cd H locs ls C hl hr hS)
theorem tt_pop2_2 {a : Value} (ha : a.category = 2) (hd : decode M.2.1 pc = .ok (.pop2, 1)) (k : tt l D tys A X fr lo mc ms M Q (pc + 1) lv st h c z) : tt l D tys A X fr lo mc ms M Q pc lv (a :: st) h c z :=
  fun p e s m args below meth cd H locs ls C hl hr hS => lv_pop2_2 C.1 C.2.1 hd ha (k p e s m args below meth cd H locs ls C hl hr hS)
theorem tt_dup_x1 {a b : Value} (ha : a.category = 1) (hb : b.category = 1) (hd : decode M.2.1 pc = .ok (.dup_x1, 1)) (k : tt l D tys A X fr lo mc ms M Q (pc + 1) lv (a :: b :: a :: st) h c z) : tt l D tys A X fr lo mc ms M Q pc lv (a :: b :: st) h c z :=
  fun p e s m args below meth cd H locs ls C hl hr hS => lv_dup_x1 C.1 C.2.1 hd ha hb (k p e s m args below meth cd H locs ls C hl hr hS)
theorem tt_dup2 {a b : Value} (ha : a.category = 1) (hb : b.category = 1) (hd : decode M.2.1 pc = .ok (.dup2, 1)) (k : tt l D tys A X fr lo mc ms M Q (pc + 1) lv (a :: b :: a :: b :: st) h c z) : tt l D tys A X fr lo mc ms M Q pc lv (a :: b :: st) h c z :=
  fun p e s m args below meth cd H locs ls C hl hr hS => lv_dup2_11 C.1 C.2.1 hd ha hb (k p e s m args below meth cd H locs ls C hl hr hS)
theorem tt_if_eq {x : Int32} {off : Int} {tgt : Nat} (hd : decode M.2.1 pc = .ok (.ifCond .eq off, 3)) (ht : (pc : Int) + off = (tgt : Int)) (kt : x = 0 → tt l D tys A X fr lo mc ms M Q tgt lv st h c z) (kf : ¬ x = 0 → tt l D tys A X fr lo mc ms M Q (pc + 3) lv st h c z) : tt l D tys A X fr lo mc ms M Q pc lv (.int x :: st) h c z :=
  fun p e s m args below meth cd H locs ls C hl hr hS => lv_if_eq C.1 C.2.1 hd ht (fun q => kt q p e s m args below meth cd H locs ls C hl hr hS) (fun q => kf q p e s m args below meth cd H locs ls C hl hr hS)
theorem tt_icmp_eq {x y : Int32} {off : Int} {tgt : Nat} (hd : decode M.2.1 pc = .ok (.if_icmp .eq off, 3)) (ht : (pc : Int) + off = (tgt : Int)) (kt : x = y → tt l D tys A X fr lo mc ms M Q tgt lv st h c z) (kf : ¬ x = y → tt l D tys A X fr lo mc ms M Q (pc + 3) lv st h c z) : tt l D tys A X fr lo mc ms M Q pc lv (.int y :: .int x :: st) h c z :=
  fun p e s m args below meth cd H locs ls C hl hr hS => lv_icmp_eq C.1 C.2.1 hd ht (fun q => kt q p e s m args below meth cd H locs ls C hl hr hS) (fun q => kf q p e s m args below meth cd H locs ls C hl hr hS)
theorem tt_if_ne {x : Int32} {off : Int} {tgt : Nat} (hd : decode M.2.1 pc = .ok (.ifCond .ne off, 3)) (ht : (pc : Int) + off = (tgt : Int)) (kt : ¬ x = 0 → tt l D tys A X fr lo mc ms M Q tgt lv st h c z) (kf : x = 0 → tt l D tys A X fr lo mc ms M Q (pc + 3) lv st h c z) : tt l D tys A X fr lo mc ms M Q pc lv (.int x :: st) h c z :=
  fun p e s m args below meth cd H locs ls C hl hr hS => lv_if_ne C.1 C.2.1 hd ht (fun q => kt q p e s m args below meth cd H locs ls C hl hr hS) (fun q => kf q p e s m args below meth cd H locs ls C hl hr hS)
theorem tt_icmp_ne {x y : Int32} {off : Int} {tgt : Nat} (hd : decode M.2.1 pc = .ok (.if_icmp .ne off, 3)) (ht : (pc : Int) + off = (tgt : Int)) (kt : ¬ x = y → tt l D tys A X fr lo mc ms M Q tgt lv st h c z) (kf : x = y → tt l D tys A X fr lo mc ms M Q (pc + 3) lv st h c z) : tt l D tys A X fr lo mc ms M Q pc lv (.int y :: .int x :: st) h c z :=
  fun p e s m args below meth cd H locs ls C hl hr hS => lv_icmp_ne C.1 C.2.1 hd ht (fun q => kt q p e s m args below meth cd H locs ls C hl hr hS) (fun q => kf q p e s m args below meth cd H locs ls C hl hr hS)
theorem tt_if_lt {x : Int32} {off : Int} {tgt : Nat} (hd : decode M.2.1 pc = .ok (.ifCond .lt off, 3)) (ht : (pc : Int) + off = (tgt : Int)) (kt : x < 0 → tt l D tys A X fr lo mc ms M Q tgt lv st h c z) (kf : ¬ x < 0 → tt l D tys A X fr lo mc ms M Q (pc + 3) lv st h c z) : tt l D tys A X fr lo mc ms M Q pc lv (.int x :: st) h c z :=
  fun p e s m args below meth cd H locs ls C hl hr hS => lv_if_lt C.1 C.2.1 hd ht (fun q => kt q p e s m args below meth cd H locs ls C hl hr hS) (fun q => kf q p e s m args below meth cd H locs ls C hl hr hS)
theorem tt_icmp_lt {x y : Int32} {off : Int} {tgt : Nat} (hd : decode M.2.1 pc = .ok (.if_icmp .lt off, 3)) (ht : (pc : Int) + off = (tgt : Int)) (kt : x < y → tt l D tys A X fr lo mc ms M Q tgt lv st h c z) (kf : ¬ x < y → tt l D tys A X fr lo mc ms M Q (pc + 3) lv st h c z) : tt l D tys A X fr lo mc ms M Q pc lv (.int y :: .int x :: st) h c z :=
  fun p e s m args below meth cd H locs ls C hl hr hS => lv_icmp_lt C.1 C.2.1 hd ht (fun q => kt q p e s m args below meth cd H locs ls C hl hr hS) (fun q => kf q p e s m args below meth cd H locs ls C hl hr hS)
theorem tt_if_ge {x : Int32} {off : Int} {tgt : Nat} (hd : decode M.2.1 pc = .ok (.ifCond .ge off, 3)) (ht : (pc : Int) + off = (tgt : Int)) (kt : 0 ≤ x → tt l D tys A X fr lo mc ms M Q tgt lv st h c z) (kf : ¬ 0 ≤ x → tt l D tys A X fr lo mc ms M Q (pc + 3) lv st h c z) : tt l D tys A X fr lo mc ms M Q pc lv (.int x :: st) h c z :=
  fun p e s m args below meth cd H locs ls C hl hr hS => lv_if_ge C.1 C.2.1 hd ht (fun q => kt q p e s m args below meth cd H locs ls C hl hr hS) (fun q => kf q p e s m args below meth cd H locs ls C hl hr hS)
theorem tt_icmp_ge {x y : Int32} {off : Int} {tgt : Nat} (hd : decode M.2.1 pc = .ok (.if_icmp .ge off, 3)) (ht : (pc : Int) + off = (tgt : Int)) (kt : y ≤ x → tt l D tys A X fr lo mc ms M Q tgt lv st h c z) (kf : ¬ y ≤ x → tt l D tys A X fr lo mc ms M Q (pc + 3) lv st h c z) : tt l D tys A X fr lo mc ms M Q pc lv (.int y :: .int x :: st) h c z :=
  fun p e s m args below meth cd H locs ls C hl hr hS => lv_icmp_ge C.1 C.2.1 hd ht (fun q => kt q p e s m args below meth cd H locs ls C hl hr hS) (fun q => kf q p e s m args below meth cd H locs ls C hl hr hS)
theorem tt_if_gt {x : Int32} {off : Int} {tgt : Nat} (hd : decode M.2.1 pc = .ok (.ifCond .gt off, 3)) (ht : (pc : Int) + off = (tgt : Int)) (kt : 0 < x → tt l D tys A X fr lo mc ms M Q tgt lv st h c z) (kf : ¬ 0 < x → tt l D tys A X fr lo mc ms M Q (pc + 3) lv st h c z) : tt l D tys A X fr lo mc ms M Q pc lv (.int x :: st) h c z :=
  fun p e s m args below meth cd H locs ls C hl hr hS => lv_if_gt C.1 C.2.1 hd ht (fun q => kt q p e s m args below meth cd H locs ls C hl hr hS) (fun q => kf q p e s m args below meth cd H locs ls C hl hr hS)
theorem tt_icmp_gt {x y : Int32} {off : Int} {tgt : Nat} (hd : decode M.2.1 pc = .ok (.if_icmp .gt off, 3)) (ht : (pc : Int) + off = (tgt : Int)) (kt : y < x → tt l D tys A X fr lo mc ms M Q tgt lv st h c z) (kf : ¬ y < x → tt l D tys A X fr lo mc ms M Q (pc + 3) lv st h c z) : tt l D tys A X fr lo mc ms M Q pc lv (.int y :: .int x :: st) h c z :=
  fun p e s m args below meth cd H locs ls C hl hr hS => lv_icmp_gt C.1 C.2.1 hd ht (fun q => kt q p e s m args below meth cd H locs ls C hl hr hS) (fun q => kf q p e s m args below meth cd H locs ls C hl hr hS)
theorem tt_if_le {x : Int32} {off : Int} {tgt : Nat} (hd : decode M.2.1 pc = .ok (.ifCond .le off, 3)) (ht : (pc : Int) + off = (tgt : Int)) (kt : x ≤ 0 → tt l D tys A X fr lo mc ms M Q tgt lv st h c z) (kf : ¬ x ≤ 0 → tt l D tys A X fr lo mc ms M Q (pc + 3) lv st h c z) : tt l D tys A X fr lo mc ms M Q pc lv (.int x :: st) h c z :=
  fun p e s m args below meth cd H locs ls C hl hr hS => lv_if_le C.1 C.2.1 hd ht (fun q => kt q p e s m args below meth cd H locs ls C hl hr hS) (fun q => kf q p e s m args below meth cd H locs ls C hl hr hS)
theorem tt_icmp_le {x y : Int32} {off : Int} {tgt : Nat} (hd : decode M.2.1 pc = .ok (.if_icmp .le off, 3)) (ht : (pc : Int) + off = (tgt : Int)) (kt : x ≤ y → tt l D tys A X fr lo mc ms M Q tgt lv st h c z) (kf : ¬ x ≤ y → tt l D tys A X fr lo mc ms M Q (pc + 3) lv st h c z) : tt l D tys A X fr lo mc ms M Q pc lv (.int y :: .int x :: st) h c z :=
  fun p e s m args below meth cd H locs ls C hl hr hS => lv_icmp_le C.1 C.2.1 hd ht (fun q => kt q p e s m args below meth cd H locs ls C hl hr hS) (fun q => kf q p e s m args below meth cd H locs ls C hl hr hS)
theorem tt_goto {off : Int} {tgt : Nat} (hd : decode M.2.1 pc = .ok (.goto off, 3)) (ht : (pc : Int) + off = (tgt : Int)) (k : tt l D tys A X fr lo mc ms M Q tgt lv st h c z) : tt l D tys A X fr lo mc ms M Q pc lv st h c z :=
  fun p e s m args below meth cd H locs ls C hl hr hS => lv_goto C.1 C.2.1 hd ht (k p e s m args below meth cd H locs ls C hl hr hS)
theorem tt_ifnull {a : Nat} {off : Int} (hd : decode M.2.1 pc = .ok (.ifnull off, 3)) (k : tt l D tys A X fr lo mc ms M Q (pc + 3) lv st h c z) : tt l D tys A X fr lo mc ms M Q pc lv (.ref a :: st) h c z :=
  fun p e s m args below meth cd H locs ls C hl hr hS => lv_ifnull C.1 C.2.1 hd (k p e s m args below meth cd H locs ls C hl hr hS)
theorem tt_ifnullN {off : Int} {tgt : Nat} (hd : decode M.2.1 pc = .ok (.ifnull off, 3)) (ht : (pc : Int) + off = (tgt : Int)) (k : tt l D tys A X fr lo mc ms M Q tgt lv st h c z) : tt l D tys A X fr lo mc ms M Q pc lv (.null :: st) h c z :=
  fun p e s m args below meth cd H locs ls C hl hr hS => lv_ifnullN C.1 C.2.1 hd ht (k p e s m args below meth cd H locs ls C hl hr hS)
theorem tt_ifnonnull {a : Nat} {off : Int} {tgt : Nat} (hd : decode M.2.1 pc = .ok (.ifnonnull off, 3)) (ht : (pc : Int) + off = (tgt : Int)) (k : tt l D tys A X fr lo mc ms M Q tgt lv st h c z) : tt l D tys A X fr lo mc ms M Q pc lv (.ref a :: st) h c z :=
  fun p e s m args below meth cd H locs ls C hl hr hS => lv_ifnonnull C.1 C.2.1 hd ht (k p e s m args below meth cd H locs ls C hl hr hS)
theorem tt_ifnonnullN {off : Int} (hd : decode M.2.1 pc = .ok (.ifnonnull off, 3)) (k : tt l D tys A X fr lo mc ms M Q (pc + 3) lv st h c z) : tt l D tys A X fr lo mc ms M Q pc lv (.null :: st) h c z :=
  fun p e s m args below meth cd H locs ls C hl hr hS => lv_ifnonnullN C.1 C.2.1 hd (k p e s m args below meth cd H locs ls C hl hr hS)
theorem tt_lookup {dflt : Int} {ps : Array (Int × Int)} {len : Nat} {x : Int32} {off : Int} {tgt : Nat} (hd : decode M.2.1 pc = .ok (.lookupswitch dflt ps, len)) (hp : (ps.toList.zip (ps.toList.drop 1)).all (fun (a, next) => a.1 < next.1) = true) (ho : Op.lookupswitch.offset ps.toList dflt x.toInt = off) (ht : (pc : Int) + off = (tgt : Int)) (k : tt l D tys A X fr lo mc ms M Q tgt lv st h c z) : tt l D tys A X fr lo mc ms M Q pc lv (.int x :: st) h c z :=
  fun p e s m args below meth cd H locs ls C hl hr hS => lv_lookup C.1 C.2.1 hd hp ho ht (k p e s m args below meth cd H locs ls C hl hr hS)
theorem tt_tableOut {dflt lo9 hi9 : Int} {offs : Array Int} {len : Nat} {x : Int32} {tgt : Nat} (hd : decode M.2.1 pc = .ok (.tableswitch dflt lo9 hi9 offs, len)) (hq : x.toInt < lo9 ∨ hi9 < x.toInt) (ht : (pc : Int) + dflt = (tgt : Int)) (k : tt l D tys A X fr lo mc ms M Q tgt lv st h c z) : tt l D tys A X fr lo mc ms M Q pc lv (.int x :: st) h c z :=
  fun p e s m args below meth cd H locs ls C hl hr hS => lv_tableOut C.1 C.2.1 hd hq ht (k p e s m args below meth cd H locs ls C hl hr hS)
theorem tt_tableIn {dflt lo9 hi9 : Int} {offs : Array Int} {len : Nat} {x : Int32} {off : Int} {tgt : Nat} (hd : decode M.2.1 pc = .ok (.tableswitch dflt lo9 hi9 offs, len)) (h1 : ¬ x.toInt < lo9) (h2 : ¬ hi9 < x.toInt) (ho : offs[(x.toInt - lo9).toNat]? = some off) (ht : (pc : Int) + off = (tgt : Int)) (k : tt l D tys A X fr lo mc ms M Q tgt lv st h c z) : tt l D tys A X fr lo mc ms M Q pc lv (.int x :: st) h c z :=
  fun p e s m args below meth cd H locs ls C hl hr hS => lv_tableIn C.1 C.2.1 hd h1 h2 ho ht (k p e s m args below meth cd H locs ls C hl hr hS)
theorem tt_ldc {ix : Nat} {v : Int32} (hw : Cond.constant M.1.cls ix v ∈ wsA) (hd : decode M.2.1 pc = .ok (.ldc ix, 2)) (k : tt l D tys A X fr lo mc ms M Q (pc + 2) lv (.int v :: st) h c z) : tt l D tys A X fr lo mc ms M Q pc lv st h c z :=
  fun p e s m args below meth cd H locs ls C hl hr hS => lv_ldc C.1 C.2.1 C.2.2.2.2.1 (C.2.2.2.2.2.1 _ hw) hd (k p e s m args below meth cd H locs ls C hl hr hS)
theorem tt_ldcw {ix : Nat} {v : Int32} (hw : Cond.constant M.1.cls ix v ∈ wsA) (hd : decode M.2.1 pc = .ok (.ldc_w ix, 3)) (k : tt l D tys A X fr lo mc ms M Q (pc + 3) lv (.int v :: st) h c z) : tt l D tys A X fr lo mc ms M Q pc lv st h c z :=
  fun p e s m args below meth cd H locs ls C hl hr hS => lv_ldcw C.1 C.2.1 C.2.2.2.2.1 (C.2.2.2.2.2.1 _ hw) hd (k p e s m args below meth cd H locs ls C hl hr hS)
theorem tt_ldc2 {ix : Nat} {v : Int64} (hw : Cond.constantLong M.1.cls ix v ∈ wsA) (hd : decode M.2.1 pc = .ok (.ldc2_w ix, 3)) (k : tt l D tys A X fr lo mc ms M Q (pc + 3) lv (.long v :: st) h c z) : tt l D tys A X fr lo mc ms M Q pc lv st h c z :=
  fun p e s m args below meth cd H locs ls C hl hr hS => lv_ldc2 C.1 C.2.1 C.2.2.2.2.1 (C.2.2.2.2.2.1 _ hw) hd (k p e s m args below meth cd H locs ls C hl hr hS)
theorem tt_get {ci N ix k a : Nat} {C9 : String} {T : u_T} {ty : Nat → FieldType} {fs : List Value} {v : Value} (hc : ch_k ci C9 T N ty) (ha : h a = some (.inr (ci, fs))) (hk : k < N) (hw : Cond.fieldLink M.1.cls ix C9 (T k).2.1 (T k).2.2.1 ∈ wsA) (hv : fs[k]? = some v) (hd : decode M.2.1 pc = .ok (.getfield ix, 3)) (kk : tt l D tys A X fr lo mc ms M Q (pc + 3) lv (v :: st) h c z) : tt l D tys A X fr lo mc ms M Q pc lv (.ref a :: st) h c z := by
  intro p e s m args below meth cd H locs ls C hl hr hS
  obtain ⟨ws, h1, hP, hD⟩ := id hr
  obtain ⟨q0, hq⟩ := h1 a _ ha
  refine va_get (D := D) (ci := ci) (v := v) (C := C9) (T := T) (N := N) C.1 C.2.1 C.2.2.2.2.2.1 hc.2.1 C.2.2.2.2.1 C.2.2.2.2.2.2.1 hP q0 hq hc.1 k hk (C.2.2.2.2.2.1 _ hw) (fun x h9 => ?_) hv hd (kk p e s m args below meth cd H locs ls C hl hr hS)
  rw [hc.2.2.2.2 k hk] at h9
  exact h9
theorem tt_put {ci N ix k a : Nat} {C9 : String} {T : u_T} {ty : Nat → FieldType} {fs : List Value} {v : Value} (hc : ch_k ci C9 T N ty) (ha : h a = some (.inr (ci, fs))) (hk : k < N) (hw : Cond.fieldLink M.1.cls ix C9 (T k).2.1 (T k).2.2.1 ∈ wsA) (hfin : (T k).2.2.2 = false) (hn : narrow (ty k) v = v) (hfit : fits (ty k) v = true) (hlen : k < fs.length) (hd : decode M.2.1 pc = .ok (.putfield ix, 3)) (kk : tt l D tys A X fr lo mc ms M Q (pc + 3) lv st (ch_up h a (.inr (ci, fs.set k v))) c z) : tt l D tys A X fr lo mc ms M Q pc lv (v :: .ref a :: st) h c z := by
  intro p e s m args below meth cd H locs ls C hl hr hS
  obtain ⟨ws, h1, hP, hD⟩ := id hr
  obtain ⟨q0, hq⟩ := h1 a _ ha
  refine va_put (D := D) (ci := ci) (v := v) (ty := ty k) (C := C9) (T := T) (N := N) C.1 C.2.1 C.2.2.2.2.2.1 hc.2.1 ty hc.2.2.1 hc.2.2.2.1 C.2.2.2.2.1 C.2.2.2.2.2.2.1 hP hD hS q0 hq hc.1 k hk (C.2.2.2.2.2.1 _ hw) (fun x h9 => ?_) hfin (hc.2.2.1 k hk) hn hfit hlen hd (fun H locs hP hD hS => kk p e s m args below meth cd H locs ls C hl (ch_r.at_ h1 hq hP hD) hS)
  rw [hc.2.2.2.2 k hk] at h9
  exact h9
theorem tt_putF {ci N ix k a : Nat} {C9 : String} {T : u_T} {ty : Nat → FieldType} {fs : List Value} {v : Value} (hc : ch_k ci C9 T N ty) (ha : h a = some (.inr (ci, fs))) (hk : k < N) (hw : Cond.fieldLink M.1.cls ix C9 (T k).2.1 (T k).2.2.1 ∈ wsA) (hfin : (T k).2.2.2 = true) (hin : M.1.name = "<init>") (hown : C9 = M.1.cls) (hn : narrow (ty k) v = v) (hfit : fits (ty k) v = true) (hlen : k < fs.length) (hd : decode M.2.1 pc = .ok (.putfield ix, 3)) (kk : tt l D tys A X fr lo mc ms M Q (pc + 3) lv st (ch_up h a (.inr (ci, fs.set k v))) c z) : tt l D tys A X fr lo mc ms M Q pc lv (v :: .ref a :: st) h c z := by
  intro p e s m args below meth cd H locs ls C hl hr hS
  obtain ⟨ws, h1, hP, hD⟩ := id hr
  obtain ⟨q0, hq⟩ := h1 a _ ha
  refine va_putF (D := D) (ci := ci) (v := v) (ty := ty k) (C := C9) (T := T) (N := N) C.1 C.2.1 C.2.2.2.2.2.1 hc.2.1 ty hc.2.2.1 hc.2.2.2.1 C.2.2.2.2.1 C.2.2.2.2.2.2.1 hP hD hS q0 hq hc.1 k hk (C.2.2.2.2.2.1 _ hw) (fun x h9 => ?_) hfin (C.2.2.2.2.2.2.2.2.2.1.trans hin) ((hc.2.2.2.2 k hk).trans hown) (hc.2.2.1 k hk) hn hfit hlen hd (fun H locs hP hD hS => kk p e s m args below meth cd H locs ls C hl (ch_r.at_ h1 hq hP hD) hS)
  rw [hc.2.2.2.2 k hk] at h9
  exact h9
theorem tt_iald {a n t0 : Nat} {cA : ClassId} {f : Nat → Int32} {i : Int32} (ha : h a = some (.inl (cA, n, .inl f))) (ht : tys[t0]? = some (cA, .int)) (hin : vp_in i n) (hd : decode M.2.1 pc = .ok (.iaload, 1)) (kk : tt l D tys A X fr lo mc ms M Q (pc + 1) lv (.int (f i.toNatClampNeg) :: st) h c z) : tt l D tys A X fr lo mc ms M Q pc lv (.int i :: .ref a :: st) h c z := by
  intro p e s m args below meth cd H locs ls C hl hr hS
  obtain ⟨ws, h1, hP, hD⟩ := id hr
  obtain ⟨q0, hq⟩ := h1 a _ ha
  exact va_iald C.1 C.2.1 C.2.2.2.2.2.2.1 hP q0 t0 hq ht hin hd (kk p e s m args below meth cd H locs ls C hl hr hS)
theorem tt_bald {a n t0 : Nat} {cA : ClassId} {f : Nat → Int32} {i : Int32} (ha : h a = some (.inl (cA, n, .inl f))) (ht : tys[t0]? = some (cA, .byte)) (hin : vp_in i n) (hd : decode M.2.1 pc = .ok (.baload, 1)) (kk : tt l D tys A X fr lo mc ms M Q (pc + 1) lv (.int (f i.toNatClampNeg) :: st) h c z) : tt l D tys A X fr lo mc ms M Q pc lv (.int i :: .ref a :: st) h c z := by
  intro p e s m args below meth cd H locs ls C hl hr hS
  obtain ⟨ws, h1, hP, hD⟩ := id hr
  obtain ⟨q0, hq⟩ := h1 a _ ha
  exact va_bald C.1 C.2.1 C.2.2.2.2.2.2.1 hP q0 t0 hq ht hin hd (kk p e s m args below meth cd H locs ls C hl hr hS)
theorem tt_zald {a n t0 : Nat} {cA : ClassId} {f : Nat → Int32} {i : Int32} (ha : h a = some (.inl (cA, n, .inl f))) (ht : tys[t0]? = some (cA, .boolean)) (hin : vp_in i n) (hd : decode M.2.1 pc = .ok (.baload, 1)) (kk : tt l D tys A X fr lo mc ms M Q (pc + 1) lv (.int (f i.toNatClampNeg) :: st) h c z) : tt l D tys A X fr lo mc ms M Q pc lv (.int i :: .ref a :: st) h c z := by
  intro p e s m args below meth cd H locs ls C hl hr hS
  obtain ⟨ws, h1, hP, hD⟩ := id hr
  obtain ⟨q0, hq⟩ := h1 a _ ha
  exact va_zald C.1 C.2.1 C.2.2.2.2.2.2.1 hP q0 t0 hq ht hin hd (kk p e s m args below meth cd H locs ls C hl hr hS)
theorem tt_aald {a n t0 : Nat} {cA : ClassId} {ty : FieldType} {f : Nat → Option Nat} {i : Int32} (ha : h a = some (.inl (cA, n, .inr (.inr (.inr (.inr f)))))) (hty : ty.isReference = true) (ht : tys[t0]? = some (cA, ty)) (hin : vp_in i n) (hd : decode M.2.1 pc = .ok (.aaload, 1)) (kk : tt l D tys A X fr lo mc ms M Q (pc + 1) lv (va_rf (f i.toNatClampNeg) :: st) h c z) : tt l D tys A X fr lo mc ms M Q pc lv (.int i :: .ref a :: st) h c z := by
  intro p e s m args below meth cd H locs ls C hl hr hS
  obtain ⟨ws, h1, hP, hD⟩ := id hr
  obtain ⟨q0, hq⟩ := h1 a _ ha
  have hlt : i.toNatClampNeg < n := Nat.not_le.mp fun q => hin (Or.inr q)
  exact W.aald (v := va_rf (f i.toNatClampNeg)) (ty := ty) C.1 C.2.1 (hP q0 _ hq) ((C.2.2.2.2.2.2.1.2 t0 _ ht).1 n (fun j => va_rf (f j))) hty (fun q => by cases q) (by show ¬ (i < 0 ∨ (arrV _ _ _).slots.size ≤ _); rw [arrV_size]; exact hin) (by show (arrV _ _ _).slots[_]? = _; rw [arrV_read _ _ hlt]) rfl rfl hd (kk p e s m args below meth cd H locs ls C hl hr hS)
theorem tt_iast {a n t0 : Nat} {cA : ClassId} {f : Nat → Int32} {i x : Int32} (ha : h a = some (.inl (cA, n, .inl f))) (ht : tys[t0]? = some (cA, .int)) (hin : vp_in i n) (hd : decode M.2.1 pc = .ok (.iastore, 1)) (kk : tt l D tys A X fr lo mc ms M Q (pc + 1) lv st (ch_up h a (.inl (cA, n, .inl (upd f i.toNatClampNeg x)))) c z) : tt l D tys A X fr lo mc ms M Q pc lv (.int x :: .int i :: .ref a :: st) h c z := by
  intro p e s m args below meth cd H locs ls C hl hr hS
  obtain ⟨ws, h1, hP, hD⟩ := id hr
  obtain ⟨q0, hq⟩ := h1 a _ ha
  exact va_iast C.1 C.2.1 C.2.2.2.2.2.2.1 hP hD hS q0 t0 hq ht hin hd (fun H locs hP hD hS => kk p e s m args below meth cd H locs ls C hl (ch_r.at_ h1 hq hP hD) hS)
theorem tt_bast {a n t0 : Nat} {cA : ClassId} {f : Nat → Int32} {i x : Int32} (ha : h a = some (.inl (cA, n, .inl f))) (ht : tys[t0]? = some (cA, .byte)) (hin : vp_in i n) (hd : decode M.2.1 pc = .ok (.bastore, 1)) (kk : tt l D tys A X fr lo mc ms M Q (pc + 1) lv st (ch_up h a (.inl (cA, n, .inl (upd f i.toNatClampNeg (vp_nar .byte x))))) c z) : tt l D tys A X fr lo mc ms M Q pc lv (.int x :: .int i :: .ref a :: st) h c z := by
  intro p e s m args below meth cd H locs ls C hl hr hS
  obtain ⟨ws, h1, hP, hD⟩ := id hr
  obtain ⟨q0, hq⟩ := h1 a _ ha
  exact va_bast C.1 C.2.1 C.2.2.2.2.2.2.1 hP hD hS q0 t0 hq ht hin hd (fun H locs hP hD hS => kk p e s m args below meth cd H locs ls C hl (ch_r.at_ h1 hq hP hD) hS)
theorem tt_zast {a n t0 : Nat} {cA : ClassId} {f : Nat → Int32} {i x : Int32} (ha : h a = some (.inl (cA, n, .inl f))) (ht : tys[t0]? = some (cA, .boolean)) (hin : vp_in i n) (hd : decode M.2.1 pc = .ok (.bastore, 1)) (kk : tt l D tys A X fr lo mc ms M Q (pc + 1) lv st (ch_up h a (.inl (cA, n, .inl (upd f i.toNatClampNeg (vp_nar .boolean x))))) c z) : tt l D tys A X fr lo mc ms M Q pc lv (.int x :: .int i :: .ref a :: st) h c z := by
  intro p e s m args below meth cd H locs ls C hl hr hS
  obtain ⟨ws, h1, hP, hD⟩ := id hr
  obtain ⟨q0, hq⟩ := h1 a _ ha
  exact va_zast C.1 C.2.1 C.2.2.2.2.2.2.1 hP hD hS q0 t0 hq ht hin hd (fun H locs hP hD hS => kk p e s m args below meth cd H locs ls C hl (ch_r.at_ h1 hq hP hD) hS)
theorem tt_last {a n t0 : Nat} {cA : ClassId} {f : Nat → Int64} {i : Int32} {x : Int64} (ha : h a = some (.inl (cA, n, .inr (.inl f)))) (ht : tys[t0]? = some (cA, .long)) (hin : vp_in i n) (hd : decode M.2.1 pc = .ok (.lastore, 1)) (kk : tt l D tys A X fr lo mc ms M Q (pc + 1) lv st (ch_up h a (.inl (cA, n, .inr (.inl (vp_updL f i.toNatClampNeg x))))) c z) : tt l D tys A X fr lo mc ms M Q pc lv (.long x :: .int i :: .ref a :: st) h c z := by
  intro p e s m args below meth cd H locs ls C hl hr hS
  obtain ⟨ws, h1, hP, hD⟩ := id hr
  obtain ⟨q0, hq⟩ := h1 a _ ha
  exact va_last C.1 C.2.1 C.2.2.2.2.2.2.1 hP hD hS q0 t0 hq ht hin hd (fun H locs hP hD hS => kk p e s m args below meth cd H locs ls C hl (ch_r.at_ h1 hq hP hD) hS)
theorem tt_aast {a n t0 v ci : Nat} {cA : ClassId} {r : vw_C} {vs : List Value} {f : Nat → Option Nat} {i : Int32} (ha : h a = some (.inl (cA, n, .inr (.inr (.inr (.inr f)))))) (ht : tys[t0]? = some (cA, .object r.1)) (hv : h v = some (.inr (ci, vs))) (hc : vwCl[ci]? = some r) (hin : vp_in i n) (hd : decode M.2.1 pc = .ok (.aastore, 1)) (kk : tt l D tys A X fr lo mc ms M Q (pc + 1) lv st (ch_up h a (.inl (cA, n, .inr (.inr (.inr (.inr (va_up f i.toNatClampNeg (some v)))))))) c z) : tt l D tys A X fr lo mc ms M Q pc lv (.ref v :: .int i :: .ref a :: st) h c z := by
  intro p e s m args below meth cd H locs ls C hl hr hS
  obtain ⟨ws, h1, hP, hD⟩ := id hr
  obtain ⟨q0, hq⟩ := h1 a _ ha
  obtain ⟨qk, hqk⟩ := h1 v _ hv
  exact va_astq C.1 C.2.1 C.2.2.2.2.2.2.1 hP hD hS q0 t0 qk ci hq ht hqk hc hin hd (fun H locs hP hD hS => kk p e s m args below meth cd H locs ls C hl (ch_r.at_ h1 hq hP hD) hS)
theorem tt_alen {a t0 : Nat} {cA : ClassId} {x : vp_A} {ty : FieldType} (ha : h a = some (.inl (cA, x))) (ht : tys[t0]? = some (cA, ty)) (hd : decode M.2.1 pc = .ok (.arraylength, 1)) (kk : tt l D tys A X fr lo mc ms M Q (pc + 1) lv (.int (Int32.ofNat x.1) :: st) h c z) : tt l D tys A X fr lo mc ms M Q pc lv (.ref a :: st) h c z := by
  intro p e s m args below meth cd H locs ls C hl hr hS
  obtain ⟨ws, h1, hP, hD⟩ := id hr
  obtain ⟨q0, hq⟩ := h1 a _ ha
  exact va_alen C.1 C.2.1 C.2.2.2.2.2.2.1 hP q0 t0 hq ht rfl hd (kk p e s m args below meth cd H locs ls C hl hr hS)
theorem tt_new {ci N ix : Nat} {C9 : String} {T : u_T} {ty : Nat → FieldType} {fs : List Value} (hc : ch_k ci C9 T N ty) (hw1 : Cond.classLink M.1.cls ix C9 ∈ wsA) (hw2 : Cond.instantiable C9 N ∈ wsA) (hw3 : Cond.initialized C9 ∈ wsA) (hfs : ∀ j, j < N → defaultValue (ty j) = vp_V fs j) (hcells : c + 1 ≤ mc) (hslots : z + N ≤ ms) (hd : decode M.2.1 pc = .ok (.new ix, 3)) (kk : ∀ a : Nat, h a = none → tt l D tys A X fr lo mc ms M Q (pc + 3) lv (.ref a :: st) (ch_up h a (.inr (ci, fs))) (c + 1) (z + N)) : tt l D tys A X fr lo mc ms M Q pc lv st h c z := by
  intro p e s m args below meth cd H locs ls C hl hr hS
  obtain ⟨ws, h1, hP, hD⟩ := id hr
  refine va_new (ci := ci) (fs := fs) (C := C9) (T := T) (N := N) C.1 C.2.1 C.2.2.2.2.2.1 hc.2.1 ty hc.2.2.1 C.2.2.2.2.1 (C.2.2.2.2.2.1 _ hw1) (C.2.2.2.2.2.1 _ hw2) (C.2.2.2.2.2.1 _ hw3) C.2.2.2.2.2.2.1 hP hD hS C.2.2.2.2.2.2.2.1 hc.1 hfs hcells hslots hd (fun q H hP hD hS => ?_)
  obtain ⟨hno, hr⟩ := ch_r.new h1 hP hD
  exact kk q hno p e s m args below meth cd H locs ls C hl hr hS
theorem tt_mono {Q' : Option Value → ch_H → Prop} (hq : ∀ r g, Q r g → Q' r g) (k : tt l D tys A X fr lo mc ms M Q pc lv st h c z) : tt l D tys A X fr lo mc ms M Q' pc lv st h c z := by
  intro p e s m args below meth cd H locs ls C hl hr hS T hT Y
  obtain ⟨t, a1, o, b1, b2, ⟨⟨r, g, e1, e2, e3⟩, b4⟩, b5⟩ := k p e s m args below meth cd H locs ls C hl hr hS T hT Y
  exact ⟨t, a1, o, b1, b2, ⟨⟨r, g, e1, e2, hq r g e3⟩, b4⟩, b5⟩
theorem tt_iret {v : Int32} (hret : M.2.2.2 = some .int) (hq : Q (some (.int v)) h) (hc : c ≤ mc) (hz : z ≤ ms) (hd : decode M.2.1 pc = .ok (.ireturn, 1)) : tt l D tys A X fr lo mc ms M Q pc lv [.int v] h c z := by
  intro p e s m args below meth cd H locs ls C hl hr hS
  intro T hT Y
  obtain ⟨t, a1, o, b1, b2, b3, L, b4, b5⟩ := W.iret (Qc := ch_q D A Q) (free := A) (v := v) (R := ch_room fr lo mc ms) (cells := mc) (slots := ms) C.1 C.2.1 (C.2.2.1.trans hret) (fun t ht hW => ⟨⟨_, h, rfl, by rw [ht]; exact hr, hq⟩, hS.F ht⟩) hS.2.2 hd (hlocks := C.2.2.2.2.2.2.2.2.1) T hT (stand_widen Y hc hz)
  exact ⟨t, a1, o, b1, b2, b3, L, b4, b5⟩
theorem tt_zret {v : Int32} {ty : FieldType} (hret : M.2.2.2 = some ty) (hn : narrow ty (.int v) = .int v) (hq : Q (some (.int v)) h) (hc : c ≤ mc) (hz : z ≤ ms) (hd : decode M.2.1 pc = .ok (.ireturn, 1)) : tt l D tys A X fr lo mc ms M Q pc lv [.int v] h c z := by
  intro p e s m args below meth cd H locs ls C hl hr hS
  refine W.widen (k := mc) (n := ms) hc hz ?_
  exact W.zret (Qc := ch_q D A Q) (free := A) (v := v) C.1 C.2.1 (C.2.2.1.trans hret) hn (fun t ht hW => ⟨⟨_, h, rfl, by rw [ht]; exact hr, hq⟩, hS.F ht⟩) hS.2.2 hd (hlocks := C.2.2.2.2.2.2.2.2.1)
theorem tt_lret {v : Int64} (hret : M.2.2.2 = some .long) (hq : Q (some (.long v)) h) (hc : c ≤ mc) (hz : z ≤ ms) (hd : decode M.2.1 pc = .ok (.lreturn, 1)) : tt l D tys A X fr lo mc ms M Q pc lv [.long v] h c z := by
  intro p e s m args below meth cd H locs ls C hl hr hS
  refine W.widen (k := mc) (n := ms) hc hz ?_
  exact W.lret (Qc := ch_q D A Q) (free := A) (v := v) C.1 C.2.1 (C.2.2.1.trans hret) (fun t ht hW => ⟨⟨_, h, rfl, by rw [ht]; exact hr, hq⟩, hS.F ht⟩) hS.2.2 hd (hlocks := C.2.2.2.2.2.2.2.2.1)
theorem tt_vret (hret : M.2.2.2 = none) (hq : Q none h) (hc : c ≤ mc) (hz : z ≤ ms) (hd : decode M.2.1 pc = .ok (.return_, 1)) : tt l D tys A X fr lo mc ms M Q pc lv [] h c z := by
  intro p e s m args below meth cd H locs ls C hl hr hS
  refine W.widen (k := mc) (n := ms) hc hz ?_
  exact W.vret (Qc := ch_q D A Q) (free := A) C.1 C.2.1 (C.2.2.1.trans hret) (fun t ht hW => ⟨⟨_, h, rfl, by rw [ht]; exact hr, hq⟩, hS.F ht⟩) hS.2.2 hd (hlocks := C.2.2.2.2.2.2.2.2.1)
theorem tt_aret {v : Value} {rt : FieldType} (hret : M.2.2.2 = some rt) (hrt : (∃ n, rt = .object n) ∨ ∃ t, rt = .array t) (hv : v = .null ∨ ∃ a, v = .ref a) (hq : Q (some v) h) (hc : c ≤ mc) (hz : z ≤ ms) (hd : decode M.2.1 pc = .ok (.areturn, 1)) : tt l D tys A X fr lo mc ms M Q pc lv [v] h c z := by
  intro p e s m args below meth cd H locs ls C hl hr hS
  refine W.widen (k := mc) (n := ms) hc hz ?_
  exact W.aret (Qc := ch_q D A Q) (free := A) (v := v) C.1 C.2.1 (C.2.2.1.trans hret) hrt hv (fun t ht hW => ⟨⟨_, h, rfl, by rw [ht]; exact hr, hq⟩, hS.F ht⟩) hS.2.2 hd (hlocks := C.2.2.2.2.2.2.2.2.1)
end
