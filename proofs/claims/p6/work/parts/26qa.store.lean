/-! stores: a heap by labels, each of one address (ad). I: what fields and arrays of numbers hold, W: longs, O: what isn't followed -/
def s2 {α : Type} (I : Nat → α) (L : Nat) (f : α) : Nat → α := fun q => if q = L then f else I q
theorem s2_s {α : Type} (I : Nat → α) (L : Nat) (f : α) : s2 I L f L = f := if_pos rfl
theorem s2_n {α : Type} {I : Nat → α} {L q : Nat} {f : α} (h : q ≠ L) : s2 I L f q = I q := if_neg h
def wpd (f : Nat → Int64) (k : Nat) (x : Int64) : Nat → Int64 := fun q => if q = k then x else f q
theorem wpd_s (f : Nat → Int64) (k : Nat) (x : Int64) : wpd f k x k = x := if_pos rfl
theorem wpd_n (f : Nat → Int64) {k q : Nat} (x : Int64) (h : q ≠ k) : wpd f k x q = f q := if_neg h
abbrev zI : Type := Nat → Nat → Int32
abbrev zW : Type := Nat → Nat → Int64
abbrev zO : Type := Nat → Nat → Value
def z_v (ad : Nat → Nat) (f : Nat → Int32) (w : Nat → Int64) (o : Nat → Value) (k : Nat) (t : k_T) : Value := match t.1 with
  | 0 => .int (f k)
  | 1 => .long (w k)
  | 2 => .ref (ad t.2.1.toNat)
  | _ => o k
def z_fs (ad : Nat → Nat) (f : Nat → Int32) (w : Nat → Int64) (o : Nat → Value) : Nat → List k_T → List Value
  | _, [] => []
  | k, t :: ts => z_v ad f w o k t :: z_fs ad f w o (k + 1) ts
def z_e (ad : Nat → Nat) (cA : Nat → ClassId) (f : Nat → Int32) (w : Nat → Int64) (o : Nat → Value) (J : k_I) : va_E := match J.1 with
  | 0 => .inr (J.2.1, z_fs ad f w o 0 J.2.2.2)
  | 1 => .inl (cA J.2.1, J.2.2.1, .inl f)
  | _ => .inl (cA J.2.1, J.2.2.1, .inr (.inr (.inr (.inr (fun i => some (ad (J.2.2.2.getD i (2, 0, 0)).2.1.toNat)))))) 
section
variable {ad : Nat → Nat} {f f1 : Nat → Int32} {w w1 : Nat → Int64} {o o1 : Nat → Value}
theorem z_fs_len : ∀ (ts : List k_T) (b : Nat), (z_fs ad f w o b ts).length = ts.length
  | [], _ => rfl
  | _ :: ts, b => congrArg (· + 1) (z_fs_len ts (b + 1))
theorem z_fs_get : ∀ (ts : List k_T) (b k : Nat) (t : k_T), ts[k]? = some t → (z_fs ad f w o b ts)[k]? = some (z_v ad f w o (b + k) t)
  | [], _, k, _, h => by cases k <;> cases h
  | t :: ts, b, 0, _, h => by cases h; rfl
  | t :: ts, b, k + 1, t9, h => by
    have := z_fs_get ts (b + 1) k t9 h
    rw [show b + 1 + k = b + (k + 1) by omega] at this
    exact this
theorem z_fs_ext : ∀ (ts : List k_T) (b : Nat), (∀ j, b ≤ j → f j = f1 j ∧ w j = w1 j ∧ o j = o1 j) → z_fs ad f w o b ts = z_fs ad f1 w1 o1 b ts
  | [], _, _ => rfl
  | t :: ts, b, h => by
    have h0 := h b (Nat.le_refl _)
    show z_v ad f w o b t :: _ = z_v ad f1 w1 o1 b t :: _
    rw [z_fs_ext ts (b + 1) (fun j hj => h j (by omega))]
    congr 1
    unfold z_v
    rw [h0.1, h0.2.1, h0.2.2]
theorem z_fs_int {x : Int32} : ∀ (ts : List k_T) (b k : Nat) (t : k_T), ts[k]? = some t → t.1 = 0 → (z_fs ad f w o b ts).set k (.int x) = z_fs ad (upd f (b + k) x) w o b ts
  | [], _, k, _, h, _ => by cases k <;> cases h
  | t :: ts, b, 0, _, h, h0 => by
    cases h
    show Value.int x :: _ = z_v ad _ w o b t :: _
    rw [z_fs_ext (f := f) (f1 := upd f (b + 0) x) (w := w) (w1 := w) (o := o) (o1 := o) ts (b + 1) (fun j hj => ⟨(upd_n f x (by omega)).symm, rfl, rfl⟩)]
    congr 1
    unfold z_v
    rw [h0]
    show Value.int x = Value.int (upd f (b + 0) x b)
    rw [Nat.add_zero, upd_s]
  | t :: ts, b, k + 1, t9, h, h0 => by
    show z_v ad f w o b t :: (z_fs ad f w o (b + 1) ts).set k (.int x) = z_v ad _ w o b t :: _
    rw [z_fs_int ts (b + 1) k t9 h h0, show b + 1 + k = b + (k + 1) by omega]
    congr 1
    unfold z_v
    rw [upd_n f x (by omega)]
theorem z_fs_long {x : Int64} : ∀ (ts : List k_T) (b k : Nat) (t : k_T), ts[k]? = some t → t.1 = 1 → (z_fs ad f w o b ts).set k (.long x) = z_fs ad f (wpd w (b + k) x) o b ts
  | [], _, k, _, h, _ => by cases k <;> cases h
  | t :: ts, b, 0, _, h, h0 => by
    cases h
    show Value.long x :: _ = z_v ad f _ o b t :: _
    rw [z_fs_ext (f := f) (f1 := f) (w := w) (w1 := wpd w (b + 0) x) (o := o) (o1 := o) ts (b + 1) (fun j hj => ⟨rfl, (wpd_n w x (by omega)).symm, rfl⟩)]
    congr 1
    unfold z_v
    rw [h0]
    show Value.long x = Value.long (wpd w (b + 0) x b)
    rw [Nat.add_zero, wpd_s]
  | t :: ts, b, k + 1, t9, h, h0 => by
    show z_v ad f w o b t :: (z_fs ad f w o (b + 1) ts).set k (.long x) = z_v ad f _ o b t :: _
    rw [z_fs_long ts (b + 1) k t9 h h0, show b + 1 + k = b + (k + 1) by omega]
    congr 1
    unfold z_v
    rw [wpd_n w x (by omega)]
end
/-- the cells: class below 50, the reference from 50, states from 100 on, six labels each -/
def zT : List k_I := [(0, 9, 19, [(2, 1, 0), (2, 2, 0), (2, 33, 0), (2, 100, 0), (2, 106, 0), (2, 112, 0), (0, 0, 0), (0, 0, 0), (2, 3, 0), (2, 4, 0), (2, 5, 0), (2, 6, 0), (8, 0, 0), (8, 0, 0), (0, 0, 0), (2, 7, 0), (2, 8, 0), (2, 9, 0), (2, 10, 0)]),
  (0, 7, 4, [(2, 19, 0), (0, 0, 0), (0, 0, 0), (0, 0, 0)]),
  (0, 4, 9, [(0, 0, 0), (2, 11, 0), (2, 12, 0), (2, 13, 0), (2, 14, 0), (2, 15, 0), (2, 16, 0), (2, 17, 0), (2, 18, 0)]),
  (0, 1, 8, [(0, 0, 0), (2, 20, 0), (2, 21, 0), (0, 0, 0), (2, 22, 0), (0, 0, 0), (2, 23, 0), (2, 24, 0)]),
  (0, 8, 3, [(2, 25, 0), (2, 26, 0), (2, 27, 0)]),
  (1, 0, 12, []),
  (1, 0, 12, []),
  (1, 0, 7, []),
  (0, 3, 5, [(2, 28, 0), (2, 29, 0), (0, 0, 0), (2, 30, 0), (2, 31, 0)]),
  (0, 0, 3, [(2, 32, 0), (2, 42, 0), (0, 0, 0)]),
  (0, 2, 3, [(2, 49, 0), (0, 0, 0), (0, 0, 0)]),
  (1, 0, 6, []), (1, 0, 6, []), (1, 0, 6, []), (1, 0, 12, []), (1, 0, 6, []), (1, 0, 6, []), (1, 0, 6, []), (1, 0, 6, []),
  (1, 0, 160, []),
  (1, 0, 6, []), (1, 0, 18, []), (1, 0, 8, []), (1, 0, 6, []), (1, 0, 6, []),
  (1, 0, 12, []), (1, 0, 6, []), (1, 0, 18, []),
  (1, 0, 12, []), (1, 0, 12, []), (1, 0, 12, []), (1, 0, 6, []),
  (2, 5, 6, [(2, 43, 0), (2, 44, 0), (2, 45, 0), (2, 46, 0), (2, 47, 0), (2, 48, 0)]),
  (0, 4, 9, [(0, 0, 0), (2, 34, 0), (2, 35, 0), (2, 36, 0), (2, 37, 0), (2, 38, 0), (2, 39, 0), (2, 40, 0), (2, 41, 0)]),
  (1, 0, 6, []), (1, 0, 6, []), (1, 0, 6, []), (1, 0, 12, []), (1, 0, 6, []), (1, 0, 6, []), (1, 0, 6, []), (1, 0, 6, []),
  (1, 0, 6, []),
  (1, 0, 121, []), (1, 0, 121, []), (1, 0, 121, []), (1, 0, 121, []), (1, 0, 121, []), (1, 0, 121, []),
  (2, 3, 7, [(2, 118, 0), (2, 124, 0), (2, 130, 0), (2, 136, 0), (2, 142, 0), (2, 148, 0), (2, 154, 0)]),
  (0, 10, 47, [(0, 0, 0), (2, 51, 0), (2, 52, 0), (2, 53, 0), (2, 54, 0), (8, 0, 0), (0, 0, 0), (0, 0, 0), (0, 0, 0), (0, 0, 0), (0, 0, 0), (0, 0, 0), (0, 0, 0), (0, 0, 0), (0, 0, 0), (8, 0, 0), (8, 0, 0), (8, 0, 0), (0, 0, 0), (2, 55, 0), (0, 0, 0), (0, 0, 0), (2, 56, 0), (2, 57, 0), (2, 58, 0), (2, 59, 0), (2, 60, 0), (2, 61, 0), (2, 62, 0), (2, 63, 0), (2, 64, 0), (2, 65, 0), (0, 0, 0), (0, 0, 0), (0, 0, 0), (0, 0, 0), (1, 0, 0), (1, 0, 0), (1, 0, 0), (0, 0, 0), (2, 66, 0), (2, 67, 0), (0, 0, 0), (0, 0, 0), (0, 0, 0), (0, 0, 0), (2, 68, 0)]),
  (1, 2, 160, []), (1, 2, 640, []), (1, 0, 4, []), (1, 0, 128, []), (1, 0, 108, []), (1, 0, 39, []), (1, 0, 39, []), (1, 0, 39, []),
  (1, 0, 18, []), (1, 0, 12, []), (1, 0, 12, []), (1, 0, 8, []), (1, 0, 6, []), (1, 0, 6, []), (1, 1, 324, []), (1, 0, 12, []), (1, 0, 6, []), (1, 0, 12, [])]
def zZ (L : Nat) : k_I := if L < 100 then zT.getD L (9, 0, 0, []) else match (L - 100) % 6 with
  | 0 => (0, 6, 7, [(2, ((L + 1 : Nat) : Int), 0), (2, ((L + 2 : Nat) : Int), 0), (2, ((L + 3 : Nat) : Int), 0), (2, ((L + 4 : Nat) : Int), 0), (2, ((L + 5 : Nat) : Int), 0), (0, 0, 0), (1, 0, 0)])
  | 1 => (1, 0, 6, [])
  | 2 => (1, 0, 6, [])
  | 3 => (1, 1, 6, [])
  | 4 => (1, 0, 12, [])
  | _ => (1, 0, 8, [])
theorem zZ_s (j : Nat) : zZ (100 + 6 * j) = (0, 6, 7, [(2, ((100 + 6 * j + 1 : Nat) : Int), 0), (2, ((100 + 6 * j + 2 : Nat) : Int), 0), (2, ((100 + 6 * j + 3 : Nat) : Int), 0), (2, ((100 + 6 * j + 4 : Nat) : Int), 0), (2, ((100 + 6 * j + 5 : Nat) : Int), 0), (0, 0, 0), (1, 0, 0)]) := by
  unfold zZ
  rw [if_neg (by omega), show (100 + 6 * j - 100) % 6 = 0 by omega]
  rfl
theorem zZ_s1 (j : Nat) : zZ (100 + 6 * j + 1) = (1, 0, 6, []) := by
  unfold zZ
  rw [if_neg (by omega), show (100 + 6 * j + 1 - 100) % 6 = 1 by omega]
  rfl
theorem zZ_s2 (j : Nat) : zZ (100 + 6 * j + 2) = (1, 0, 6, []) := by
  unfold zZ
  rw [if_neg (by omega), show (100 + 6 * j + 2 - 100) % 6 = 2 by omega]
  rfl
theorem zZ_s3 (j : Nat) : zZ (100 + 6 * j + 3) = (1, 1, 6, []) := by
  unfold zZ
  rw [if_neg (by omega), show (100 + 6 * j + 3 - 100) % 6 = 3 by omega]
  rfl
theorem zZ_s4 (j : Nat) : zZ (100 + 6 * j + 4) = (1, 0, 12, []) := by
  unfold zZ
  rw [if_neg (by omega), show (100 + 6 * j + 4 - 100) % 6 = 4 by omega]
  rfl
theorem zZ_s5 (j : Nat) : zZ (100 + 6 * j + 5) = (1, 0, 8, []) := by
  unfold zZ
  rw [if_neg (by omega), show (100 + 6 * j + 5 - 100) % 6 = 5 by omega]
  rfl
/-- the labels of the class; of the reference -/
def zNC (L : Nat) : Bool := (decide (L < 50) && (L != 32 && L != 49)) || (decide (100 ≤ L) && decide (L < 160))
def zNM (L : Nat) : Bool := decide (50 ≤ L) && decide (L < 69)
theorem zNC_s {j k : Nat} (hj : j < 10) (hk : k < 6) : zNC (100 + 6 * j + k) = true := by
  unfold zNC
  simp only [Bool.or_eq_true, Bool.and_eq_true, decide_eq_true_eq]
  exact Or.inr ⟨by omega, by omega⟩
/-- the heap holds the store -/
def zr (N : Nat → Bool) (cA : Nat → ClassId) (ad : Nat → Nat) (I : zI) (W : zW) (O : zO) (h : ch_H) : Prop := (∀ L, N L = true → h (ad L) = some (z_e ad cA (I L) (W L) (O L) (zZ L))) ∧ ∀ L L1, N L = true → N L1 = true → ad L = ad L1 → L = L1
/-- what doesn't belong to the store is as it was -/
def zf (N : Nat → Bool) (ad : Nat → Nat) (h g : ch_H) : Prop := ∀ q, (∀ L, N L = true → q ≠ ad L) → g q = h q
theorem zf.rf {N : Nat → Bool} {ad : Nat → Nat} {h : ch_H} : zf N ad h h := fun _ _ => rfl
theorem zf.tr {N : Nat → Bool} {ad : Nat → Nat} {h g g1 : ch_H} (a : zf N ad h g) (b : zf N ad g g1) : zf N ad h g1 := fun q hq => (b q hq).trans (a q hq)
section
variable {N : Nat → Bool} {cA : Nat → ClassId} {ad : Nat → Nat} {I : zI} {W : zW} {O : zO} {h g : ch_H} {L : Nat}
theorem zf.one (hL : N L = true) (o : ∀ q, q ≠ ad L → g q = h q) : zf N ad h g := fun q hq => o q (hq L hL)
/-- one cell is another -/
theorem zr.one {f : Nat → Int32} (hz : zr N cA ad I W O h) (hL : N L = true) (c : g (ad L) = some (z_e ad cA f (W L) (O L) (zZ L))) (o : ∀ q, q ≠ ad L → g q = h q) : zr N cA ad (s2 I L f) W O g := by
  refine ⟨fun L1 h1 => ?_, hz.2⟩
  by_cases e : L1 = L
  · subst e
    rw [s2_s]
    exact c
  · rw [s2_n e, o _ (fun z => e (hz.2 _ _ h1 hL z))]
    exact hz.1 L1 h1
theorem zr.oneW {w : Nat → Int64} (hz : zr N cA ad I W O h) (hL : N L = true) (c : g (ad L) = some (z_e ad cA (I L) w (O L) (zZ L))) (o : ∀ q, q ≠ ad L → g q = h q) : zr N cA ad I (s2 W L w) O g := by
  refine ⟨fun L1 h1 => ?_, hz.2⟩
  by_cases e : L1 = L
  · subst e
    rw [s2_s]
    exact c
  · rw [s2_n e, o _ (fun z => e (hz.2 _ _ h1 hL z))]
    exact hz.1 L1 h1
/-- a cell outside is written -/
theorem zr.out {a : Nat} (hz : zr N cA ad I W O h) (ha : ∀ L, N L = true → ad L ≠ a) (o : ∀ q, q ≠ a → g q = h q) : zr N cA ad I W O g := ⟨fun L1 h1 => (o _ (ha L1 h1)).trans (hz.1 L1 h1), hz.2⟩
theorem zr.same (hz : zr N cA ad I W O h) (o : ∀ L, N L = true → g (ad L) = h (ad L)) : zr N cA ad I W O g := ⟨fun L1 h1 => (o L1 h1).trans (hz.1 L1 h1), hz.2⟩
theorem zr.ob {ci n : Nat} {ts : List k_T} (hz : zr N cA ad I W O h) (hL : N L = true) (hZ : zZ L = (0, ci, n, ts)) : h (ad L) = some (.inr (ci, z_fs ad (I L) (W L) (O L) 0 ts)) := by
  rw [hz.1 L hL, hZ]
  rfl
theorem zr.ar {t n : Nat} {ts : List k_T} {f : Nat → Int32} (hz : zr N cA ad I W O h) (hL : N L = true) (hZ : zZ L = (1, t, n, ts)) (e : I L = f) : h (ad L) = some (.inl (cA t, n, .inl f)) := by
  rw [hz.1 L hL, hZ, ← e]
  rfl
theorem zr.ra {t n : Nat} {ts : List k_T} (hz : zr N cA ad I W O h) (hL : N L = true) (hZ : zZ L = (2, t, n, ts)) : h (ad L) = some (.inl (cA t, n, .inr (.inr (.inr (.inr (fun i => some (ad (ts.getD i (2, 0, 0)).2.1.toNat))))))) := by
  rw [hz.1 L hL, hZ]
  rfl
theorem zr.ne {L1 : Nat} (hz : zr N cA ad I W O h) (hL : N L = true) (h1 : N L1 = true) (ne : L ≠ L1) : ad L ≠ ad L1 := fun e => ne (hz.2 _ _ hL h1 e)
theorem z_fs0 {ts : List k_T} {k : Nat} {t : k_T} {f : Nat → Int32} {w : Nat → Int64} {o : Nat → Value} (ht : ts[k]? = some t) : (z_fs ad f w o 0 ts)[k]? = some (z_v ad f w o k t) := by
  have := z_fs_get (ad := ad) (f := f) (w := w) (o := o) ts 0 k t ht
  rw [Nat.zero_add] at this
  exact this
theorem z_fsR {ts : List k_T} {k L1 : Nat} {t : k_T} {f : Nat → Int32} {w : Nat → Int64} {o : Nat → Value} (ht : ts[k]? = some t) (h0 : t.1 = 2) (e : t.2.1.toNat = L1) : (z_fs ad f w o 0 ts)[k]? = some (.ref (ad L1)) := by
  rw [z_fs0 ht]
  unfold z_v
  rw [h0, e]
  rfl
theorem z_fsI {ts : List k_T} {k : Nat} {t : k_T} {f : Nat → Int32} {w : Nat → Int64} {o : Nat → Value} (ht : ts[k]? = some t) (h0 : t.1 = 0) : (z_fs ad f w o 0 ts)[k]? = some (.int (f k)) := by
  rw [z_fs0 ht]
  unfold z_v
  rw [h0]
  rfl
end
section
variable {l : Launch} {D : va_G} {tys : List (ClassId × FieldType)} {A : Nat → Prop} {X : State → Prop} {fr lo : Nat} {M : ch_M} {Q : Option Value → ch_H → Prop} {pc : Nat} {lv : List (Nat × Value)} {st : List Value} {h : ch_H} {cA : Nat → ClassId} {N : Nat → Bool} {ad : Nat → Nat} {I : zI} {W : zW} {O : zO}
/-- a number, a long, a reference out of a field -/
theorem z_get {own ix ci k n L : Nat} {ts : List k_T} {t : k_T} {f : Nat → Int32} (hz : zr N cA ad I W O h) (hL : N L = true) (hZ : zZ L = (0, ci, n, ts)) (ht : ts[k]? = some t) (h0 : t.1 = 0) (e : I L = f) (hR : pg_R own = M.1.cls) (hx : k_fd (pg_fl own) ix = some (ci, k)) (hc : ci < 11 ∧ k < ch_N ci) (hd : decode M.2.1 pc = .ok (.getfield ix, 3)) (kk : ww l D tys A X fr lo M Q (pc + 3) lv (.int (f k) :: st) h) : ww l D tys A X fr lo M Q pc lv (.ref (ad L) :: st) h := by
  have h1 := z_fs0 (ad := ad) (f := I L) (w := W L) (o := O L) ht
  have h2 : z_v ad (I L) (W L) (O L) k t = .int (f k) := by
    unfold z_v
    rw [h0, e]
    rfl
  rw [h2] at h1
  exact w_get hR hx hc (hz.ob hL hZ) h1 hd kk
theorem z_getJ {own ix ci k n L : Nat} {ts : List k_T} {t : k_T} {w : Nat → Int64} (hz : zr N cA ad I W O h) (hL : N L = true) (hZ : zZ L = (0, ci, n, ts)) (ht : ts[k]? = some t) (h0 : t.1 = 1) (e : W L = w) (hR : pg_R own = M.1.cls) (hx : k_fd (pg_fl own) ix = some (ci, k)) (hc : ci < 11 ∧ k < ch_N ci) (hd : decode M.2.1 pc = .ok (.getfield ix, 3)) (kk : ww l D tys A X fr lo M Q (pc + 3) lv (.long (w k) :: st) h) : ww l D tys A X fr lo M Q pc lv (.ref (ad L) :: st) h := by
  have h1 := z_fs0 (ad := ad) (f := I L) (w := W L) (o := O L) ht
  have h2 : z_v ad (I L) (W L) (O L) k t = .long (w k) := by
    unfold z_v
    rw [h0, e]
    rfl
  rw [h2] at h1
  exact w_get hR hx hc (hz.ob hL hZ) h1 hd kk
theorem z_getR {own ix ci k n L L1 : Nat} {ts : List k_T} {t : k_T} (hz : zr N cA ad I W O h) (hL : N L = true) (hZ : zZ L = (0, ci, n, ts)) (ht : ts[k]? = some t) (h0 : t.1 = 2) (e : t.2.1.toNat = L1) (hR : pg_R own = M.1.cls) (hx : k_fd (pg_fl own) ix = some (ci, k)) (hc : ci < 11 ∧ k < ch_N ci) (hd : decode M.2.1 pc = .ok (.getfield ix, 3)) (kk : ww l D tys A X fr lo M Q (pc + 3) lv (.ref (ad L1) :: st) h) : ww l D tys A X fr lo M Q pc lv (.ref (ad L) :: st) h := by
  have h1 := z_fs0 (ad := ad) (f := I L) (w := W L) (o := O L) ht
  have h2 : z_v ad (I L) (W L) (O L) k t = .ref (ad L1) := by
    unfold z_v
    rw [h0, e]
    rfl
  rw [h2] at h1
  exact w_get hR hx hc (hz.ob hL hZ) h1 hd kk
theorem z_getO {own ix ci k n L : Nat} {ts : List k_T} {t : k_T} {v : Value} (hz : zr N cA ad I W O h) (hL : N L = true) (hZ : zZ L = (0, ci, n, ts)) (ht : ts[k]? = some t) (h0 : t.1 = 8) (e : O L k = v) (hR : pg_R own = M.1.cls) (hx : k_fd (pg_fl own) ix = some (ci, k)) (hc : ci < 11 ∧ k < ch_N ci) (hd : decode M.2.1 pc = .ok (.getfield ix, 3)) (kk : ww l D tys A X fr lo M Q (pc + 3) lv (v :: st) h) : ww l D tys A X fr lo M Q pc lv (.ref (ad L) :: st) h := by
  have h1 := z_fs0 (ad := ad) (f := I L) (w := W L) (o := O L) ht
  have h2 : z_v ad (I L) (W L) (O L) k t = v := by
    unfold z_v
    rw [h0, ← e]
    rfl
  rw [h2] at h1
  exact w_get hR hx hc (hz.ob hL hZ) h1 hd kk
theorem z_put {own ix ci k n L : Nat} {ts : List k_T} {t : k_T} {x : Int32} {f : Nat → Int32} (hz : zr N cA ad I W O h) (hL : N L = true) (hZ : zZ L = (0, ci, n, ts)) (ht : ts[k]? = some t) (h0 : t.1 = 0) (e : I L = f) (hR : pg_R own = M.1.cls) (hx : k_fd (pg_fl own) ix = some (ci, k)) (hc : ci < 11 ∧ k < ch_N ci) (hfin : (ch_T ci k).2.2.2 = false) (hn : narrow (ch_ty ci k) (.int x) = .int x ∧ fits (ch_ty ci k) (.int x) = true) (hd : decode M.2.1 pc = .ok (.putfield ix, 3)) (kk : ∀ (g : ch_H) (I1 : zI), I1 = s2 I L (upd f k x) → zr N cA ad I1 W O g → zf N ad h g → ww l D tys A X fr lo M Q (pc + 3) lv st g) : ww l D tys A X fr lo M Q pc lv (.int x :: .ref (ad L) :: st) h := by
  have hl : k < ts.length := (List.getElem?_eq_some_iff.mp ht).1
  refine w_put _ rfl hR hx hc hfin hn (hz.ob hL hZ) (by rw [z_fs_len]; exact hl) hd (fun g c o => kk g _ rfl ?_ (zf.one hL o))
  refine hz.one hL ?_ o
  rw [c, hZ, z_fs_int ts 0 k t ht h0, Nat.zero_add, e]
  rfl
theorem z_putJ {own ix ci k n L : Nat} {ts : List k_T} {t : k_T} {x : Int64} {w : Nat → Int64} (hz : zr N cA ad I W O h) (hL : N L = true) (hZ : zZ L = (0, ci, n, ts)) (ht : ts[k]? = some t) (h0 : t.1 = 1) (e : W L = w) (hR : pg_R own = M.1.cls) (hx : k_fd (pg_fl own) ix = some (ci, k)) (hc : ci < 11 ∧ k < ch_N ci) (hfin : (ch_T ci k).2.2.2 = false) (hn : narrow (ch_ty ci k) (.long x) = .long x ∧ fits (ch_ty ci k) (.long x) = true) (hd : decode M.2.1 pc = .ok (.putfield ix, 3)) (kk : ∀ (g : ch_H) (W1 : zW), W1 = s2 W L (wpd w k x) → zr N cA ad I W1 O g → zf N ad h g → ww l D tys A X fr lo M Q (pc + 3) lv st g) : ww l D tys A X fr lo M Q pc lv (.long x :: .ref (ad L) :: st) h := by
  have hl : k < ts.length := (List.getElem?_eq_some_iff.mp ht).1
  refine w_put _ rfl hR hx hc hfin hn (hz.ob hL hZ) (by rw [z_fs_len]; exact hl) hd (fun g c o => kk g _ rfl ?_ (zf.one hL o))
  refine hz.oneW hL ?_ o
  rw [c, hZ, z_fs_long ts 0 k t ht h0, Nat.zero_add, e]
  rfl
theorem z_iald {n L : Nat} {ts : List k_T} {f : Nat → Int32} {i : Int32} (hT : k_tys tys cA) (hz : zr N cA ad I W O h) (hL : N L = true) (hZ : zZ L = (1, 0, n, ts)) (e : I L = f) (h0 : 0 ≤ i.toInt) (h1 : i.toInt < n) (hd : decode M.2.1 pc = .ok (.iaload, 1)) (kk : ∀ v : Int32, v = f i.toInt.toNat → ww l D tys A X fr lo M Q (pc + 1) lv (.int v :: st) h) : ww l D tys A X fr lo M Q pc lv (.int i :: .ref (ad L) :: st) h := by
  have e9 : i.toNatClampNeg = i.toInt.toNat := by have := kn_cl h0; omega
  exact tt_iald (hz.ar hL hZ e) (hT 0 (by omega)) (kn_in h0 h1) hd (kk _ (by rw [e9]))
theorem z_bald {n L : Nat} {ts : List k_T} {f : Nat → Int32} {i : Int32} (hT : k_tys tys cA) (hz : zr N cA ad I W O h) (hL : N L = true) (hZ : zZ L = (1, 2, n, ts)) (e : I L = f) (h0 : 0 ≤ i.toInt) (h1 : i.toInt < n) (hd : decode M.2.1 pc = .ok (.baload, 1)) (kk : ∀ v : Int32, v = f i.toInt.toNat → ww l D tys A X fr lo M Q (pc + 1) lv (.int v :: st) h) : ww l D tys A X fr lo M Q pc lv (.int i :: .ref (ad L) :: st) h := by
  have e9 : i.toNatClampNeg = i.toInt.toNat := by have := kn_cl h0; omega
  exact tt_bald (hz.ar hL hZ e) (hT 2 (by omega)) (kn_in h0 h1) hd (kk _ (by rw [e9]))
theorem z_zald {n L : Nat} {ts : List k_T} {f : Nat → Int32} {i : Int32} (hT : k_tys tys cA) (hz : zr N cA ad I W O h) (hL : N L = true) (hZ : zZ L = (1, 1, n, ts)) (e : I L = f) (h0 : 0 ≤ i.toInt) (h1 : i.toInt < n) (hd : decode M.2.1 pc = .ok (.baload, 1)) (kk : ∀ v : Int32, v = f i.toInt.toNat → ww l D tys A X fr lo M Q (pc + 1) lv (.int v :: st) h) : ww l D tys A X fr lo M Q pc lv (.int i :: .ref (ad L) :: st) h := by
  have e9 : i.toNatClampNeg = i.toInt.toNat := by have := kn_cl h0; omega
  exact tt_zald (hz.ar hL hZ e) (hT 1 (by omega)) (kn_in h0 h1) hd (kk _ (by rw [e9]))
theorem z_ar_of {t n L : Nat} {ts : List k_T} {f : Nat → Int32} {g : ch_H} (hZ : zZ L = (1, t, n, ts)) (c : g (ad L) = some (.inl (cA t, n, .inl f))) {w : Nat → Int64} {o : Nat → Value} : g (ad L) = some (z_e ad cA f w o (zZ L)) := by
  rw [c, hZ]
  rfl
theorem z_iast {n L : Nat} {ts : List k_T} {f : Nat → Int32} {i x : Int32} (hT : k_tys tys cA) (hz : zr N cA ad I W O h) (hL : N L = true) (hZ : zZ L = (1, 0, n, ts)) (e : I L = f) (h0 : 0 ≤ i.toInt) (h1 : i.toInt < n) (hd : decode M.2.1 pc = .ok (.iastore, 1)) (kk : ∀ (g : ch_H) (I1 : zI), I1 = s2 I L (upd f i.toInt.toNat x) → zr N cA ad I1 W O g → zf N ad h g → ww l D tys A X fr lo M Q (pc + 1) lv st g) : ww l D tys A X fr lo M Q pc lv (.int x :: .int i :: .ref (ad L) :: st) h :=
  w_iast hT (hz.ar hL hZ e) h0 h1 hd (fun g c o => kk g _ rfl (hz.one hL (z_ar_of hZ c) o) (zf.one hL o))
theorem z_bast {n L : Nat} {ts : List k_T} {f : Nat → Int32} {i x : Int32} (hT : k_tys tys cA) (hz : zr N cA ad I W O h) (hL : N L = true) (hZ : zZ L = (1, 2, n, ts)) (e : I L = f) (h0 : 0 ≤ i.toInt) (h1 : i.toInt < n) (hd : decode M.2.1 pc = .ok (.bastore, 1)) (kk : ∀ (g : ch_H) (I1 : zI), I1 = s2 I L (upd f i.toInt.toNat (vp_nar .byte x)) → zr N cA ad I1 W O g → zf N ad h g → ww l D tys A X fr lo M Q (pc + 1) lv st g) : ww l D tys A X fr lo M Q pc lv (.int x :: .int i :: .ref (ad L) :: st) h :=
  w_bast hT (hz.ar hL hZ e) h0 h1 hd (fun g c o => kk g _ rfl (hz.one hL (z_ar_of hZ c) o) (zf.one hL o))
theorem z_zast {n L : Nat} {ts : List k_T} {f : Nat → Int32} {i x : Int32} (hT : k_tys tys cA) (hz : zr N cA ad I W O h) (hL : N L = true) (hZ : zZ L = (1, 1, n, ts)) (e : I L = f) (h0 : 0 ≤ i.toInt) (h1 : i.toInt < n) (hx : 0 ≤ x.toInt ∧ x.toInt ≤ 1) (hd : decode M.2.1 pc = .ok (.bastore, 1)) (kk : ∀ (g : ch_H) (I1 : zI), I1 = s2 I L (upd f i.toInt.toNat x) → zr N cA ad I1 W O g → zf N ad h g → ww l D tys A X fr lo M Q (pc + 1) lv st g) : ww l D tys A X fr lo M Q pc lv (.int x :: .int i :: .ref (ad L) :: st) h :=
  w_zast hT (hz.ar hL hZ e) h0 h1 hx hd (fun g c o => kk g _ rfl (hz.one hL (z_ar_of hZ c) o) (zf.one hL o))
theorem z_aald {t0 n L L1 : Nat} {ty : FieldType} {ts : List k_T} {i : Int32} (hz : zr N cA ad I W O h) (hL : N L = true) (hZ : zZ L = (2, t0, n, ts)) (hty : ty.isReference = true) (ht : tys[t0]? = some (cA t0, ty)) (h0 : 0 ≤ i.toInt) (h1 : i.toInt < n) (e : (ts.getD i.toInt.toNat (2, 0, 0)).2.1.toNat = L1) (hd : decode M.2.1 pc = .ok (.aaload, 1)) (kk : ww l D tys A X fr lo M Q (pc + 1) lv (.ref (ad L1) :: st) h) : ww l D tys A X fr lo M Q pc lv (.int i :: .ref (ad L) :: st) h := by
  have e9 : i.toNatClampNeg = i.toInt.toNat := by have := kn_cl h0; omega
  refine tt_aald (hz.ra hL hZ) hty ht (kn_in h0 h1) hd ?_
  rw [e9, e]
  exact kk
end
