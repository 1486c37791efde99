/-! the checker, over quick finds (made by gen_fast): the same by definition but for what finds and what compares -/
noncomputable def k_fi (α : Type) (p : α → Bool) (l : List α) : Option α := List.rec none (fun a _ ih => Bool.rec ih (some a) (p a)) l
def kF0 (α : Type) (p : α → Bool) (l : List α) : Option α := l.find? p
def kE0 (a b : Nat) : Bool := a == b
def Gk_ty (fnd : (α : Type) → (α → Bool) → List α → Option α) (eq : Nat → Nat → Bool) (S : k_S) (v : Nat) : k_T := match (fnd _ (fun q => eq (q.1) (v)) S.2.1) with | some q => q.2 | none => (9, 0, 0)
def Gk_lin (fnd : (α : Type) → (α → Bool) → List α → Option α) (eq : Nat → Nat → Bool) (S : k_S) (v : Nat) : Int × Nat × Int := match (fnd _ (fun q => eq (q.1) (v)) S.2.2.1) with | some q => q.2 | none => (1, v, 0)
def Gk_lo (fnd : (α : Type) → (α → Bool) → List α → Option α) (eq : Nat → Nat → Bool) (S : k_S) (v : Nat) : Int := ((Gk_ty fnd eq) S v).2.1
def Gk_hi (fnd : (α : Type) → (α → Bool) → List α → Option α) (eq : Nat → Nat → Bool) (S : k_S) (v : Nat) : Int := ((Gk_ty fnd eq) S v).2.2
def Gk_cst (fnd : (α : Type) → (α → Bool) → List α → Option α) (eq : Nat → Nat → Bool) (S : k_S) (v : Nat) : Bool := decide ((Gk_lo fnd eq) S v = (Gk_hi fnd eq) S v)
def Gk_lin2 (fnd : (α : Type) → (α → Bool) → List α → Option α) (eq : Nat → Nat → Bool) (S1 S : k_S) (a : Nat) (m d : Int) : k_S := k_def S1 S.1 (m * ((Gk_lin fnd eq) S a).1) ((Gk_lin fnd eq) S a).2.1 (m * ((Gk_lin fnd eq) S a).2.2 + d)
def Gk_dadd (fnd : (α : Type) → (α → Bool) → List α → Option α) (eq : Nat → Nat → Bool) (S1 S : k_S) (a b : Nat) : k_S := if (Gk_cst fnd eq) S b then (Gk_lin2 fnd eq) S1 S a 1 ((Gk_lo fnd eq) S b) else if (Gk_cst fnd eq) S a then (Gk_lin2 fnd eq) S1 S b 1 ((Gk_lo fnd eq) S a) else S1
def Gk_add (fnd : (α : Type) → (α → Bool) → List α → Option α) (eq : Nat → Nat → Bool) (S : k_S) (a b : Nat) : k_S :=
  if k_inr ((Gk_lo fnd eq) S a + (Gk_lo fnd eq) S b) ((Gk_hi fnd eq) S a + (Gk_hi fnd eq) S b) then (Gk_dadd fnd eq) (k_new S (0, (Gk_lo fnd eq) S a + (Gk_lo fnd eq) S b, (Gk_hi fnd eq) S a + (Gk_hi fnd eq) S b)) S a b else k_new S k_top
def Gk_dsub (fnd : (α : Type) → (α → Bool) → List α → Option α) (eq : Nat → Nat → Bool) (S1 S : k_S) (a b : Nat) : k_S := if (Gk_cst fnd eq) S b then (Gk_lin2 fnd eq) S1 S a 1 (- (Gk_lo fnd eq) S b) else if (Gk_cst fnd eq) S a then (Gk_lin2 fnd eq) S1 S b (-1) ((Gk_lo fnd eq) S a) else S1
def Gk_sbt (fnd : (α : Type) → (α → Bool) → List α → Option α) (eq : Nat → Nat → Bool) (S : k_S) (a b : Nat) : k_S :=
  if k_inr ((Gk_lo fnd eq) S a - (Gk_hi fnd eq) S b) ((Gk_hi fnd eq) S a - (Gk_lo fnd eq) S b) then (Gk_dsub fnd eq) (k_new S (0, (Gk_lo fnd eq) S a - (Gk_hi fnd eq) S b, (Gk_hi fnd eq) S a - (Gk_lo fnd eq) S b)) S a b else k_new S k_top
def Gk_mulc (fnd : (α : Type) → (α → Bool) → List α → Option α) (eq : Nat → Nat → Bool) (S : k_S) (a : Nat) (m : Int) : k_S :=
  if 0 ≤ m then (if k_inr ((Gk_lo fnd eq) S a * m) ((Gk_hi fnd eq) S a * m) then (Gk_lin2 fnd eq) (k_new S (0, (Gk_lo fnd eq) S a * m, (Gk_hi fnd eq) S a * m)) S a m 0 else k_new S k_top)
  else if k_inr ((Gk_hi fnd eq) S a * m) ((Gk_lo fnd eq) S a * m) then (Gk_lin2 fnd eq) (k_new S (0, (Gk_hi fnd eq) S a * m, (Gk_lo fnd eq) S a * m)) S a m 0 else k_new S k_top
def Gk_mul (fnd : (α : Type) → (α → Bool) → List α → Option α) (eq : Nat → Nat → Bool) (S : k_S) (a b : Nat) : k_S :=
  if (Gk_cst fnd eq) S b then (Gk_mulc fnd eq) S a ((Gk_lo fnd eq) S b) else if (Gk_cst fnd eq) S a then (Gk_mulc fnd eq) S b ((Gk_lo fnd eq) S a)
  else if decide (0 ≤ (Gk_lo fnd eq) S a) && decide (0 ≤ (Gk_lo fnd eq) S b) && k_inr ((Gk_lo fnd eq) S a * (Gk_lo fnd eq) S b) ((Gk_hi fnd eq) S a * (Gk_hi fnd eq) S b) then k_new S (0, (Gk_lo fnd eq) S a * (Gk_lo fnd eq) S b, (Gk_hi fnd eq) S a * (Gk_hi fnd eq) S b) else k_new S k_top
def Gk_and (fnd : (α : Type) → (α → Bool) → List α → Option α) (eq : Nat → Nat → Bool) (S : k_S) (a b : Nat) : k_S := if 0 ≤ (Gk_lo fnd eq) S b then k_new S (0, 0, (Gk_hi fnd eq) S b) else if 0 ≤ (Gk_lo fnd eq) S a then k_new S (0, 0, (Gk_hi fnd eq) S a) else k_new S k_top
def Gk_fold (fnd : (α : Type) → (α → Bool) → List α → Option α) (eq : Nat → Nat → Bool) (S : k_S) (a b : Nat) (f : Int32 → Int32 → Int32) : k_S := if (Gk_cst fnd eq) S a && (Gk_cst fnd eq) S b then k_new S (0, (f (Int32.ofInt ((Gk_lo fnd eq) S a)) (Int32.ofInt ((Gk_lo fnd eq) S b))).toInt, (f (Int32.ofInt ((Gk_lo fnd eq) S a)) (Int32.ofInt ((Gk_lo fnd eq) S b))).toInt) else k_new S k_top
def Gk_shr (fnd : (α : Type) → (α → Bool) → List α → Option α) (eq : Nat → Nat → Bool) (S : k_S) (a b : Nat) : k_S := if (Gk_cst fnd eq) S b && decide (0 ≤ (Gk_lo fnd eq) S b) && decide ((Gk_lo fnd eq) S b < 32) then k_new S (0, (Gk_lo fnd eq) S a / (2 ^ ((Gk_lo fnd eq) S b).toNat : Nat), (Gk_hi fnd eq) S a / (2 ^ ((Gk_lo fnd eq) S b).toNat : Nat)) else k_new S k_top
def Gk_div (fnd : (α : Type) → (α → Bool) → List α → Option α) (eq : Nat → Nat → Bool) (S : k_S) (a b : Nat) : k_S := if decide (0 ≤ (Gk_lo fnd eq) S a) && (Gk_cst fnd eq) S b && decide (0 < (Gk_lo fnd eq) S b) then k_new S (0, (Gk_lo fnd eq) S a / (Gk_lo fnd eq) S b, (Gk_hi fnd eq) S a / (Gk_lo fnd eq) S b) else if decide (0 ≤ (Gk_hi fnd eq) S a) && (Gk_cst fnd eq) S b && decide (0 < (Gk_lo fnd eq) S b) && decide (-(Gk_lo fnd eq) S b < (Gk_lo fnd eq) S a) then k_new S (0, 0, (Gk_hi fnd eq) S a / (Gk_lo fnd eq) S b) else k_new S k_top
def Gk_rem (fnd : (α : Type) → (α → Bool) → List α → Option α) (eq : Nat → Nat → Bool) (S : k_S) (a b : Nat) : k_S := if decide (0 ≤ (Gk_lo fnd eq) S a) && (Gk_cst fnd eq) S b && decide (0 < (Gk_lo fnd eq) S b) then k_new S (0, 0, (Gk_lo fnd eq) S b - 1) else k_new S k_top
def Gk_neg (fnd : (α : Type) → (α → Bool) → List α → Option α) (eq : Nat → Nat → Bool) (S : k_S) (a : Nat) : k_S := if -2147483648 < (Gk_lo fnd eq) S a then (Gk_lin2 fnd eq) (k_new S (0, - (Gk_hi fnd eq) S a, - (Gk_lo fnd eq) S a)) S a (-1) 0 else k_new S k_top
def Gk_max (fnd : (α : Type) → (α → Bool) → List α → Option α) (eq : Nat → Nat → Bool) (S : k_S) (a b : Nat) : k_S := k_rel (k_rel (k_new S (0, max ((Gk_lo fnd eq) S a) ((Gk_lo fnd eq) S b), max ((Gk_hi fnd eq) S a) ((Gk_hi fnd eq) S b))) S.1 a 0) S.1 b 0
def Gk_min (fnd : (α : Type) → (α → Bool) → List α → Option α) (eq : Nat → Nat → Bool) (S : k_S) (a b : Nat) : k_S := k_rel (k_rel (k_new S (0, min ((Gk_lo fnd eq) S a) ((Gk_lo fnd eq) S b), min ((Gk_hi fnd eq) S a) ((Gk_hi fnd eq) S b))) a S.1 0) b S.1 0
def Gk_ref (fnd : (α : Type) → (α → Bool) → List α → Option α) (eq : Nat → Nat → Bool) (S : k_S) (v : Nat) (lo hi : Int) : k_S :=
  if 0 < ((Gk_lin fnd eq) S v).1 ∧ ((Gk_ty fnd eq) S ((Gk_lin fnd eq) S v).2.1).1 = 0 ∧ ((Gk_lin fnd eq) S v).2.1 ≠ v then
    k_fact (k_fact S v (0, max ((Gk_lo fnd eq) S v) lo, min ((Gk_hi fnd eq) S v) hi)) ((Gk_lin fnd eq) S v).2.1 (0, max ((Gk_lo fnd eq) S ((Gk_lin fnd eq) S v).2.1) (-((((Gk_lin fnd eq) S v).2.2 - max ((Gk_lo fnd eq) S v) lo) / ((Gk_lin fnd eq) S v).1)), min ((Gk_hi fnd eq) S ((Gk_lin fnd eq) S v).2.1) ((min ((Gk_hi fnd eq) S v) hi - ((Gk_lin fnd eq) S v).2.2) / ((Gk_lin fnd eq) S v).1))
  else k_fact S v (0, max ((Gk_lo fnd eq) S v) lo, min ((Gk_hi fnd eq) S v) hi)
def Gk_lt (fnd : (α : Type) → (α → Bool) → List α → Option α) (eq : Nat → Nat → Bool) (S : k_S) (a b : Nat) : k_S := (Gk_ref fnd eq) ((Gk_ref fnd eq) S a (-k_big) ((Gk_hi fnd eq) S b - 1)) b ((Gk_lo fnd eq) S a + 1) k_big
def Gk_le (fnd : (α : Type) → (α → Bool) → List α → Option α) (eq : Nat → Nat → Bool) (S : k_S) (a b : Nat) : k_S := (Gk_ref fnd eq) ((Gk_ref fnd eq) S a (-k_big) ((Gk_hi fnd eq) S b)) b ((Gk_lo fnd eq) S a) k_big
def Gk_eq (fnd : (α : Type) → (α → Bool) → List α → Option α) (eq : Nat → Nat → Bool) (S : k_S) (a b : Nat) : k_S := (Gk_le fnd eq) ((Gk_le fnd eq) S a b) b a
def Gk_ne1 (fnd : (α : Type) → (α → Bool) → List α → Option α) (eq : Nat → Nat → Bool) (S : k_S) (a : Nat) (c : Int) : k_S := if (Gk_lo fnd eq) S a = c then (Gk_ref fnd eq) S a (c + 1) k_big else if (Gk_hi fnd eq) S a = c then (Gk_ref fnd eq) S a (-k_big) (c - 1) else if c = 0 then k_nz S a else S
def Gk_ne (fnd : (α : Type) → (α → Bool) → List α → Option α) (eq : Nat → Nat → Bool) (S : k_S) (a b : Nat) : k_S := if (Gk_cst fnd eq) S b then (Gk_ne1 fnd eq) S a ((Gk_lo fnd eq) S b) else if (Gk_cst fnd eq) S a then (Gk_ne1 fnd eq) S b ((Gk_lo fnd eq) S a) else S
def Gk_emp (fnd : (α : Type) → (α → Bool) → List α → Option α) (eq : Nat → Nat → Bool) (S : k_S) (v : Nat) : Bool := decide ((Gk_hi fnd eq) S v < (Gk_lo fnd eq) S v)
def Gk_fd (fnd : (α : Type) → (α → Bool) → List α → Option α) (eq : Nat → Nat → Bool) (l : List (Nat × Nat × Nat)) (i : Nat) : Option (Nat × Nat) := ((fnd _ (fun q => eq (q.1) (i)) l)).map (fun q => q.2)
def Gk_loc (fnd : (α : Type) → (α → Bool) → List α → Option α) (eq : Nat → Nat → Bool) (L : List (Nat × Nat)) (i : Nat) : Option Nat := ((fnd _ (fun q => eq (q.1) (i)) L)).map (fun q => q.2)
def Gk_one (fnd : (α : Type) → (α → Bool) → List α → Option α) (eq : Nat → Nat → Bool) (t : k_T) : Bool := eq (t.1) (0) || eq (t.1) (2) || eq (t.1) (3)
def Gk_sto (fnd : (α : Type) → (α → Bool) → List α → Option α) (eq : Nat → Nat → Bool) (S : k_S) (i v : Nat) (L : List (Nat × Nat)) : List (Nat × Nat) := (i, v) :: L.filter (fun q => !(eq (q.1) (i)) && (!(eq (q.1 + 1) (i)) || (Gk_one fnd eq) ((Gk_ty fnd eq) S q.2)))
def Gk_isI (fnd : (α : Type) → (α → Bool) → List α → Option α) (eq : Nat → Nat → Bool) (S : k_S) (v : Nat) : Bool := eq (((Gk_ty fnd eq) S v).1) (0)
def Gk_isL (fnd : (α : Type) → (α → Bool) → List α → Option α) (eq : Nat → Nat → Bool) (S : k_S) (v : Nat) : Bool := eq (((Gk_ty fnd eq) S v).1) (1) || eq (((Gk_ty fnd eq) S v).1) (4)
def Gk_bin (fnd : (α : Type) → (α → Bool) → List α → Option α) (eq : Nat → Nat → Bool) (S : k_S) (pc : Nat) (L : List (Nat × Nat)) (st : List Nat) (f : k_S → Nat → Nat → k_S) : Option (List k_N) := match st with
  | b :: a :: st => if (Gk_isI fnd eq) S a && (Gk_isI fnd eq) S b then some [(f S a b, pc + 1, L, S.1 :: st)] else none
  | _ => none
def Gk_binL (fnd : (α : Type) → (α → Bool) → List α → Option α) (eq : Nat → Nat → Bool) (S : k_S) (pc : Nat) (L : List (Nat × Nat)) (st : List Nat) : Option (List k_N) := match st with
  | b :: a :: st => if (Gk_isL fnd eq) S a && (Gk_isL fnd eq) S b then some [(k_new S (1, 0, 0), pc + 1, L, S.1 :: st)] else none
  | _ => none
def Gk_load (fnd : (α : Type) → (α → Bool) → List α → Option α) (eq : Nat → Nat → Bool) (S : k_S) (ok : k_T → Bool) (i pc : Nat) (L : List (Nat × Nat)) (st : List Nat) : Option (List k_N) := match (Gk_loc fnd eq) L i with
  | some v => if ok ((Gk_ty fnd eq) S v) then some [(S, pc, L, v :: st)] else none
  | none => none
def Gk_store (fnd : (α : Type) → (α → Bool) → List α → Option α) (eq : Nat → Nat → Bool) (S : k_S) (ok : k_T → Bool) (mx i pc : Nat) (L : List (Nat × Nat)) (st : List Nat) : Option (List k_N) := match st with
  | v :: st => if ok ((Gk_ty fnd eq) S v) && decide (i < mx) then some [(S, pc, (Gk_sto fnd eq) S i v L, st)] else none
  | _ => none
def Gk_alt (fnd : (α : Type) → (α → Bool) → List α → Option α) (eq : Nat → Nat → Bool) (S : k_S) (a b pc : Nat) (L : List (Nat × Nat)) (st : List Nat) : List k_N := if (Gk_emp fnd eq) S a || (Gk_emp fnd eq) S b then [] else [(S, pc, L, st)]
def Gk_cond (fnd : (α : Type) → (α → Bool) → List α → Option α) (eq : Nat → Nat → Bool) (c : ClassFile.Cond) (S : k_S) (a b : Nat) : k_S × k_S := match c with
  | .eq => ((Gk_eq fnd eq) S a b, (Gk_ne fnd eq) S a b)
  | .ne => ((Gk_ne fnd eq) S a b, (Gk_eq fnd eq) S a b)
  | .lt => ((Gk_lt fnd eq) S a b, (Gk_le fnd eq) S b a)
  | .ge => ((Gk_le fnd eq) S b a, (Gk_lt fnd eq) S a b)
  | .gt => ((Gk_lt fnd eq) S b a, (Gk_le fnd eq) S a b)
  | .le => ((Gk_le fnd eq) S a b, (Gk_lt fnd eq) S b a)
def Gk_brn (fnd : (α : Type) → (α → Bool) → List α → Option α) (eq : Nat → Nat → Bool) (c : ClassFile.Cond) (S : k_S) (a b pc : Nat) (off : Int) (L : List (Nat × Nat)) (st : List Nat) : Option (List k_N) :=
  if (Gk_isI fnd eq) S a && (Gk_isI fnd eq) S b && k_tok pc off then some ((Gk_alt fnd eq) ((Gk_cond fnd eq) c S a b).1 a b (k_tgt pc off) L st ++ (Gk_alt fnd eq) ((Gk_cond fnd eq) c S a b).2 a b (pc + 3) L st) else none
def Gk_fit (fnd : (α : Type) → (α → Bool) → List α → Option α) (eq : Nat → Nat → Bool) (ft : FieldType) (t : k_T) : Bool := match ft with
  | .int => eq (t.1) (0)
  | .boolean => eq (t.1) (0) && decide (0 ≤ t.2.1) && decide (t.2.2 ≤ 1)
  | .long => eq (t.1) (1) || eq (t.1) (4)
  | .object _ => eq (t.1) (2) || eq (t.1) (3)
  | .array _ => eq (t.1) (2) || eq (t.1) (3)
  | _ => false
def Gk_get (fnd : (α : Type) → (α → Bool) → List α → Option α) (eq : Nat → Nat → Bool) (Lb : Nat → k_I) (own : Nat) (S : k_S) (pc ix : Nat) (L : List (Nat × Nat)) (st : List Nat) : Option (List k_N) := match st with
  | a :: st => match (Gk_fd fnd eq) (pg_fl own) ix with
    | some q => if eq (((Gk_ty fnd eq) S a).1) (2) && eq ((Lb ((Gk_ty fnd eq) S a).2.1.toNat).1) (0) && eq ((Lb ((Gk_ty fnd eq) S a).2.1.toNat).2.1) (q.1) && decide (q.1 < 11) && decide (q.2 < ch_N q.1) then
        match (fnd _ (fun u => eq (u.1) (a) && eq (u.2.1) (q.2)) S.2.2.2.2.2) with
        | some u => some [(S, pc + 3, L, u.2.2 :: st)]
        | none => match (Lb ((Gk_ty fnd eq) S a).2.1.toNat).2.2.2[q.2]? with
          | some t => some [(k_kn (k_new S t) ((a, q.2, S.1) :: S.2.2.2.2.2), pc + 3, L, S.1 :: st)]
          | none => none
      else none
    | none => none
  | _ => none
def Gk_keep (fnd : (α : Type) → (α → Bool) → List α → Option α) (eq : Nat → Nat → Bool) (S : k_S) (lb k : Nat) (u : Nat × Nat × Nat) : Bool := !(eq (u.2.1) (k)) || (eq (((Gk_ty fnd eq) S u.1).1) (2) && !(eq (((Gk_ty fnd eq) S u.1).2.1.toNat) (lb)))
def Gk_put (fnd : (α : Type) → (α → Bool) → List α → Option α) (eq : Nat → Nat → Bool) (Lb : Nat → k_I) (W : List (Nat × Nat)) (own : Nat) (S : k_S) (pc ix : Nat) (L : List (Nat × Nat)) (st : List Nat) : Option (List k_N) := match st with
  | v :: a :: st => match (Gk_fd fnd eq) (pg_fl own) ix with
    | some q => if eq (((Gk_ty fnd eq) S a).1) (2) && eq ((Lb ((Gk_ty fnd eq) S a).2.1.toNat).1) (0) && eq ((Lb ((Gk_ty fnd eq) S a).2.1.toNat).2.1) (q.1) && decide (q.1 < 11) && decide (q.2 < ch_N q.1) && decide (ch_N q.1 = (Lb ((Gk_ty fnd eq) S a).2.1.toNat).2.2.1) && decide ((((Gk_ty fnd eq) S a).2.1.toNat, q.2) ∈ W) && !(ch_T q.1 q.2).2.2.2 && (Gk_fit fnd eq) (ch_ty q.1 q.2) ((Gk_ty fnd eq) S v) then
        match (Lb ((Gk_ty fnd eq) S a).2.1.toNat).2.2.2[q.2]? with
        | some t => if k_sub ((Gk_ty fnd eq) S v) t then some [(k_kn S ((a, q.2, v) :: S.2.2.2.2.2.filter ((Gk_keep fnd eq) S ((Gk_ty fnd eq) S a).2.1.toNat q.2)), pc + 3, L, st)] else none
        | none => none
      else none
    | none => none
  | _ => none
def Gk_elT (fnd : (α : Type) → (α → Bool) → List α → Option α) (eq : Nat → Nat → Bool) (I : k_I) (S : k_S) (i : Nat) : k_T :=
  if I.2.2.2.length = 1 then (0, (k_el I 0).2.1, (k_el I 0).2.2)
  else if ((Gk_ty fnd eq) S ((Gk_lin fnd eq) S i).2.1).1 = 0 then k_um I ((Gk_lin fnd eq) S i).1 ((Gk_lin fnd eq) S i).2.2 ((Gk_hi fnd eq) S ((Gk_lin fnd eq) S i).2.1 - (Gk_lo fnd eq) S ((Gk_lin fnd eq) S i).2.1).toNat ((Gk_lo fnd eq) S ((Gk_lin fnd eq) S i).2.1) else k_top
def Gk_inb (fnd : (α : Type) → (α → Bool) → List α → Option α) (eq : Nat → Nat → Bool) (S : k_S) (i n : Nat) : Bool := (Gk_isI fnd eq) S i && decide (0 ≤ (Gk_lo fnd eq) S i) && decide ((Gk_hi fnd eq) S i < n)
def Gk_ald (fnd : (α : Type) → (α → Bool) → List α → Option α) (eq : Nat → Nat → Bool) (Lb : Nat → k_I) (ts : List Nat) (S : k_S) (pc : Nat) (L : List (Nat × Nat)) (st : List Nat) : Option (List k_N) := match st with
  | i :: a :: st => if eq (((Gk_ty fnd eq) S a).1) (2) && eq ((Lb ((Gk_ty fnd eq) S a).2.1.toNat).1) (1) && decide ((Lb ((Gk_ty fnd eq) S a).2.1.toNat).2.1 ∈ ts) && (Gk_inb fnd eq) S i (Lb ((Gk_ty fnd eq) S a).2.1.toNat).2.2.1 then some [(k_new S ((Gk_elT fnd eq) (Lb ((Gk_ty fnd eq) S a).2.1.toNat) S i), pc + 1, L, S.1 :: st)] else none
  | _ => none
def Gk_aald (fnd : (α : Type) → (α → Bool) → List α → Option α) (eq : Nat → Nat → Bool) (Lb : Nat → k_I) (S : k_S) (pc : Nat) (L : List (Nat × Nat)) (st : List Nat) : Option (List k_N) := match st with
  | i :: a :: st => if eq (((Gk_ty fnd eq) S a).1) (2) && eq ((Lb ((Gk_ty fnd eq) S a).2.1.toNat).1) (2) && decide ((Lb ((Gk_ty fnd eq) S a).2.1.toNat).2.1 ∈ [3, 4, 5]) && decide ((Lb ((Gk_ty fnd eq) S a).2.1.toNat).2.2.2.length = 1) && (Gk_inb fnd eq) S i (Lb ((Gk_ty fnd eq) S a).2.1.toNat).2.2.1 then some [(k_new S (k_el (Lb ((Gk_ty fnd eq) S a).2.1.toNat) 0), pc + 1, L, S.1 :: st)] else none
  | _ => none
def Gk_elI (fnd : (α : Type) → (α → Bool) → List α → Option α) (eq : Nat → Nat → Bool) (I : k_I) (S : k_S) (i : Nat) : k_T :=
  if I.2.2.2.length = 1 then (0, (k_el I 0).2.1, (k_el I 0).2.2)
  else if ((Gk_ty fnd eq) S ((Gk_lin fnd eq) S i).2.1).1 = 0 then k_im I ((Gk_lin fnd eq) S i).1 ((Gk_lin fnd eq) S i).2.2 ((Gk_hi fnd eq) S ((Gk_lin fnd eq) S i).2.1 - (Gk_lo fnd eq) S ((Gk_lin fnd eq) S i).2.1).toNat ((Gk_lo fnd eq) S ((Gk_lin fnd eq) S i).2.1) else (0, 1, 0)
def Gk_ast (fnd : (α : Type) → (α → Bool) → List α → Option α) (eq : Nat → Nat → Bool) (Lb : Nat → k_I) (W : List (Nat × Nat)) (t : Nat) (bd : k_T) (S : k_S) (pc : Nat) (L : List (Nat × Nat)) (st : List Nat) : Option (List k_N) := match st with
  | v :: i :: a :: st => if eq (((Gk_ty fnd eq) S a).1) (2) && eq ((Lb ((Gk_ty fnd eq) S a).2.1.toNat).1) (1) && eq ((Lb ((Gk_ty fnd eq) S a).2.1.toNat).2.1) (t) && (Gk_inb fnd eq) S i (Lb ((Gk_ty fnd eq) S a).2.1.toNat).2.2.1 && (Gk_isI fnd eq) S v && k_sub ((Gk_ty fnd eq) S v) ((Gk_elI fnd eq) (Lb ((Gk_ty fnd eq) S a).2.1.toNat) S i) && k_sub ((Gk_ty fnd eq) S v) bd && decide ((((Gk_ty fnd eq) S a).2.1.toNat, 0) ∈ W) then some [(S, pc + 1, L, st)] else none
  | _ => none
def Gk_alen (fnd : (α : Type) → (α → Bool) → List α → Option α) (eq : Nat → Nat → Bool) (Lb : Nat → k_I) (S : k_S) (pc : Nat) (L : List (Nat × Nat)) (st : List Nat) : Option (List k_N) := match st with
  | a :: st => if eq (((Gk_ty fnd eq) S a).1) (2) && eq ((Lb ((Gk_ty fnd eq) S a).2.1.toNat).1) (1) && decide ((Lb ((Gk_ty fnd eq) S a).2.1.toNat).2.1 < 7) && decide ((Lb ((Gk_ty fnd eq) S a).2.1.toNat).2.2.1 < 100000) then k_push S (0, (Lb ((Gk_ty fnd eq) S a).2.1.toNat).2.2.1, (Lb ((Gk_ty fnd eq) S a).2.1.toNat).2.2.1) (pc + 1) L st else none
  | _ => none
def Gk_arm (fnd : (α : Type) → (α → Bool) → List α → Option α) (eq : Nat → Nat → Bool) (S : k_S) (a : Nat) (x : Int) (pc : Nat) (off : Int) (L : List (Nat × Nat)) (st : List Nat) : List k_N := if (Gk_emp fnd eq) ((Gk_ref fnd eq) S a x x) a then [] else [((Gk_ref fnd eq) S a x x, k_tgt pc off, L, st)]
def Gk_arms (fnd : (α : Type) → (α → Bool) → List α → Option α) (eq : Nat → Nat → Bool) (S : k_S) (a pc : Nat) (L : List (Nat × Nat)) (st : List Nat) : List (Int × Int) → List k_N
  | [] => []
  | q :: l => (Gk_arm fnd eq) S a q.1 pc q.2 L st ++ (Gk_arms fnd eq) S a pc L st l
def Gk_sw (fnd : (α : Type) → (α → Bool) → List α → Option α) (eq : Nat → Nat → Bool) (S : k_S) (pc : Nat) (dflt : Int) (ps : List (Int × Int)) (L : List (Nat × Nat)) (st : List Nat) : Option (List k_N) := match st with
  | a :: st => if (Gk_isI fnd eq) S a && k_tok pc dflt && ps.all (fun q => k_tok pc q.2) then some ((S, k_tgt pc dflt, L, st) :: (Gk_arms fnd eq) S a pc L st ps) else none
  | _ => none
def Gk_step (fnd : (α : Type) → (α → Bool) → List α → Option α) (eq : Nat → Nat → Bool) (Lb : Nat → k_I) (W : List (Nat × Nat)) (own mx : Nat) (S : k_S) (pc : Nat) (L : List (Nat × Nat)) (st : List Nat) (i : Instr) (n : Nat) : Option (List k_N) := match i with
  | .iconst v => if eq (n) (1) && k_inr v v then k_push S (0, v, v) (pc + 1) L st else none
  | .bipush v => if eq (n) (2) && decide (-128 ≤ v) && decide (v ≤ 127) then k_push S (0, v, v) (pc + 2) L st else none
  | .sipush v => if eq (n) (3) && decide (-32768 ≤ v) && decide (v ≤ 32767) then k_push S (0, v, v) (pc + 3) L st else none
  | .ldc ix => if eq (n) (2) then (match (fnd _ (fun q => eq (q.1) (ix)) (pg_kl own)) with | some q => k_push S (0, q.2.toInt, q.2.toInt) (pc + 2) L st | none => none) else none
  | .ldc_w ix => if eq (n) (3) then (match (fnd _ (fun q => eq (q.1) (ix)) (pg_kl own)) with | some q => k_push S (0, q.2.toInt, q.2.toInt) (pc + 3) L st | none => none) else none
  | .ldc2_w ix => if eq (n) (3) then (match (fnd _ (fun q => eq (q.1) (ix)) (pg_jl own)) with | some q => k_push S (if q.2 = 0 then 1 else 4, 0, 0) (pc + 3) L st | none => none) else none
  | .iload_n k => if eq (n) (1) then (Gk_load fnd eq) S (fun t => eq (t.1) (0)) k.val (pc + 1) L st else none
  | .iload k => if eq (n) (2) then (Gk_load fnd eq) S (fun t => eq (t.1) (0)) k (pc + 2) L st else none
  | .lload_n k => if eq (n) (1) then (Gk_load fnd eq) S (fun t => eq (t.1) (1)) k.val (pc + 1) L st else none
  | .aload_n k => if eq (n) (1) then (Gk_load fnd eq) S (fun t => eq (t.1) (2) || eq (t.1) (3)) k.val (pc + 1) L st else none
  | .aload k => if eq (n) (2) then (Gk_load fnd eq) S (fun t => eq (t.1) (2) || eq (t.1) (3)) k (pc + 2) L st else none
  | .istore_n k => if eq (n) (1) then (Gk_store fnd eq) S (fun t => eq (t.1) (0)) mx k.val (pc + 1) L st else none
  | .istore k => if eq (n) (2) then (Gk_store fnd eq) S (fun t => eq (t.1) (0)) mx k (pc + 2) L st else none
  | .astore_n k => if eq (n) (1) then (Gk_store fnd eq) S (fun t => eq (t.1) (2) || eq (t.1) (3)) mx k.val (pc + 1) L st else none
  | .astore k => if eq (n) (2) then (Gk_store fnd eq) S (fun t => eq (t.1) (2) || eq (t.1) (3)) mx k (pc + 2) L st else none
  | .iinc k d => if eq (n) (3) && k_inr d d && decide (k < mx) then (match (Gk_loc fnd eq) L k with
      | some v => if (Gk_isI fnd eq) S v then some [((Gk_add fnd eq) (k_new S (0, d, d)) v S.1, pc + 3, (Gk_sto fnd eq) S k (S.1 + 1) L, st)] else none
      | none => none) else none
  | .iadd => if eq (n) (1) then (Gk_bin fnd eq) S pc L st (Gk_add fnd eq) else none
  | .isub => if eq (n) (1) then (Gk_bin fnd eq) S pc L st (Gk_sbt fnd eq) else none
  | .imul => if eq (n) (1) then (Gk_bin fnd eq) S pc L st (Gk_mul fnd eq) else none
  | .iand => if eq (n) (1) then (Gk_bin fnd eq) S pc L st (Gk_and fnd eq) else none
  | .ior => if eq (n) (1) then (Gk_bin fnd eq) S pc L st (fun S a b => (Gk_fold fnd eq) S a b (fun x y => x ||| y)) else none
  | .ixor => if eq (n) (1) then (Gk_bin fnd eq) S pc L st (fun S a b => (Gk_fold fnd eq) S a b (fun x y => x ^^^ y)) else none
  | .ishl => if eq (n) (1) then (Gk_bin fnd eq) S pc L st (fun S a b => (Gk_fold fnd eq) S a b (fun x y => x <<< (y &&& 31))) else none
  | .ishr => if eq (n) (1) then (Gk_bin fnd eq) S pc L st (Gk_shr fnd eq) else none
  | .iushr => if eq (n) (1) then (Gk_bin fnd eq) S pc L st (fun S a b => (Gk_fold fnd eq) S a b (fun x y => (x.toUInt32 >>> (y.toUInt32 &&& Int32.toUInt32 31)).toInt32)) else none
  | .idiv => if eq (n) (1) then (match st with | b :: _ => if ((Gk_isI fnd eq) S b) && (decide (0 < (Gk_lo fnd eq) S b) || decide ((Gk_hi fnd eq) S b < 0) || decide (b ∈ S.2.2.2.2.1)) then (Gk_bin fnd eq) S pc L st (Gk_div fnd eq) else none | _ => none) else none
  | .irem => if eq (n) (1) then (match st with | b :: _ => if ((Gk_isI fnd eq) S b) && (decide (0 < (Gk_lo fnd eq) S b) || decide ((Gk_hi fnd eq) S b < 0) || decide (b ∈ S.2.2.2.2.1)) then (Gk_bin fnd eq) S pc L st (Gk_rem fnd eq) else none | _ => none) else none
  | .ineg => if eq (n) (1) then (match st with | a :: st => if (Gk_isI fnd eq) S a then some [((Gk_neg fnd eq) S a, pc + 1, L, S.1 :: st)] else none | _ => none) else none
  | .i2l => if eq (n) (1) then (match st with | a :: st => if (Gk_isI fnd eq) S a then k_push S (1, 0, 0) (pc + 1) L st else none | _ => none) else none
  | .l2i => if eq (n) (1) then (match st with | a :: st => if (Gk_isL fnd eq) S a then k_push S k_top (pc + 1) L st else none | _ => none) else none
  | .ladd => if eq (n) (1) then (Gk_binL fnd eq) S pc L st else none
  | .lsub => if eq (n) (1) then (Gk_binL fnd eq) S pc L st else none
  | .lmul => if eq (n) (1) then (Gk_binL fnd eq) S pc L st else none
  | .lrem => if eq (n) (1) then (match st with | b :: _ => if eq (((Gk_ty fnd eq) S b).1) (4) then (Gk_binL fnd eq) S pc L st else none | _ => none) else none
  | .lushr => if eq (n) (1) then (match st with | b :: a :: st => if (Gk_isL fnd eq) S a && (Gk_isI fnd eq) S b then k_push S (1, 0, 0) (pc + 1) L st else none | _ => none) else none
  | .dup => if eq (n) (1) then (match st with | a :: st => if (Gk_one fnd eq) ((Gk_ty fnd eq) S a) then some [(S, pc + 1, L, a :: a :: st)] else none | _ => none) else none
  | .pop => if eq (n) (1) then (match st with | a :: st => if (Gk_one fnd eq) ((Gk_ty fnd eq) S a) then some [(S, pc + 1, L, st)] else none | _ => none) else none
  | .dup_x1 => if eq (n) (1) then (match st with | a :: b :: st => if (Gk_one fnd eq) ((Gk_ty fnd eq) S a) && (Gk_one fnd eq) ((Gk_ty fnd eq) S b) then some [(S, pc + 1, L, a :: b :: a :: st)] else none | _ => none) else none
  | .dup2 => if eq (n) (1) then (match st with | a :: b :: st => if (Gk_one fnd eq) ((Gk_ty fnd eq) S a) && (Gk_one fnd eq) ((Gk_ty fnd eq) S b) then some [(S, pc + 1, L, a :: b :: a :: b :: st)] else none | _ => none) else none
  | .goto off => if eq (n) (3) && k_tok pc off then some [(S, k_tgt pc off, L, st)] else none
  | .if_icmp c off => if eq (n) (3) then (match st with | b :: a :: st => (Gk_brn fnd eq) c S a b pc off L st | _ => none) else none
  | .ifCond c off => if eq (n) (3) then (match st with | a :: st => (Gk_brn fnd eq) c (k_new S (0, 0, 0)) a S.1 pc off L st | _ => none) else none
  | .ifnull off => if eq (n) (3) && k_tok pc off then (match st with
      | a :: st => if eq (((Gk_ty fnd eq) S a).1) (2) then some [(S, pc + 3, L, st)] else if eq (((Gk_ty fnd eq) S a).1) (3) then some [(S, k_tgt pc off, L, st), (k_fact S a (2, ((Gk_ty fnd eq) S a).2.1, 0), pc + 3, L, st)] else none
      | _ => none) else none
  | .ifnonnull off => if eq (n) (3) && k_tok pc off then (match st with
      | a :: st => if eq (((Gk_ty fnd eq) S a).1) (2) then some [(S, k_tgt pc off, L, st)] else if eq (((Gk_ty fnd eq) S a).1) (3) then some [(k_fact S a (2, ((Gk_ty fnd eq) S a).2.1, 0), k_tgt pc off, L, st), (S, pc + 3, L, st)] else none
      | _ => none) else none
  | .aconst_null => if eq (n) (1) then k_push S (3, 6, 0) (pc + 1) L st else none
  | .getfield ix => if eq (n) (3) then (Gk_get fnd eq) Lb own S pc ix L st else none
  | .putfield ix => if eq (n) (3) then (Gk_put fnd eq) Lb W own S pc ix L st else none
  | .iaload => if eq (n) (1) then (Gk_ald fnd eq) Lb [0] S pc L st else none
  | .baload => if eq (n) (1) then (Gk_ald fnd eq) Lb [1, 2] S pc L st else none
  | .aaload => if eq (n) (1) then (Gk_aald fnd eq) Lb S pc L st else none
  | .iastore => if eq (n) (1) then (Gk_ast fnd eq) Lb W 0 k_top S pc L st else none
  | .bastore => if eq (n) (1) then (Gk_ast fnd eq) Lb W 1 (0, 0, 1) S pc L st else none
  | .arraylength => if eq (n) (1) then (Gk_alen fnd eq) Lb S pc L st else none
  | .tableswitch dflt lo hi offs => if decide (hi + 1 = lo + (offs.size : Int)) then (Gk_sw fnd eq) S pc dflt (k_tab lo 0 offs.toList) L st else none
  | .lookupswitch dflt ps => if (ps.toList.zip (ps.toList.drop 1)).all (fun (a, next) => a.1 < next.1) then (Gk_sw fnd eq) S pc dflt ps.toList L st else none
  | _ => none
def Gk_fk (fnd : (α : Type) → (α → Bool) → List α → Option α) (eq : Nat → Nat → Bool) (S : k_S) (a k : Nat) : Option Nat := ((fnd _ (fun u => eq (u.1) (a) && eq (u.2.1) (k)) S.2.2.2.2.2)).map (fun u => u.2.2)
def Gk_selL (fnd : (α : Type) → (α → Bool) → List α → Option α) (eq : Nat → Nat → Bool) (S : k_S) (L : List (Nat × Nat)) : List (Nat × k_T) → Option (List Nat)
  | [] => some []
  | q :: l => match (Gk_loc fnd eq) L q.1 with
    | some v => if k_sub ((Gk_ty fnd eq) S v) q.2 then ((Gk_selL fnd eq) S L l).map (fun vl => v :: vl) else none
    | none => none
def Gk_selK (fnd : (α : Type) → (α → Bool) → List α → Option α) (eq : Nat → Nat → Bool) (S : k_S) (vl : List Nat) : List (Nat × Nat × k_T) → Option (List Nat)
  | [] => some []
  | q :: l => match vl[q.1]? with
    | some a => match (Gk_fk fnd eq) S a q.2.1 with
      | some w => if k_sub ((Gk_ty fnd eq) S w) q.2.2 then ((Gk_selK fnd eq) S vl l).map (fun wl => w :: wl) else none
      | none => none
    | none => none
def Gk_nf (fnd : (α : Type) → (α → Bool) → List α → Option α) (eq : Nat → Nat → Bool) (S : k_S) : List (Int × Nat) → List (Int × Nat) × Int
  | [] => ([], 0)
  | q :: f => (k_mg (q.1 * ((Gk_lin fnd eq) S q.2).1) ((Gk_lin fnd eq) S q.2).2.1 ((Gk_nf fnd eq) S f).1, ((Gk_nf fnd eq) S f).2 + q.1 * ((Gk_lin fnd eq) S q.2).2.2)
def Gk_lb (fnd : (α : Type) → (α → Bool) → List α → Option α) (eq : Nat → Nat → Bool) (S : k_S) : List (Int × Nat) → Option Int
  | [] => some 0
  | q :: f => if q.1 = 0 then (Gk_lb fnd eq) S f else if ((Gk_ty fnd eq) S q.2).1 = 0 then ((Gk_lb fnd eq) S f).map (fun m => m + (if 0 ≤ q.1 then q.1 * (Gk_lo fnd eq) S q.2 else q.1 * (Gk_hi fnd eq) S q.2)) else none
def Gk_co (fnd : (α : Type) → (α → Bool) → List α → Option α) (eq : Nat → Nat → Bool) (b : Nat) (f : List (Int × Nat)) : Int := match (fnd _ (fun q => eq (q.2) (b)) f) with | some q => q.1 | none => 0
def Gk_rx (fnd : (α : Type) → (α → Bool) → List α → Option α) (eq : Nat → Nat → Bool) : List (Nat × Nat × Int) → List (Int × Nat) → List (Int × Nat) × Int
  | [], f => (f, 0)
  | q :: R, f => if 1 ≤ (Gk_co fnd eq) q.1 f ∧ (Gk_co fnd eq) q.2.1 f ≤ -1 then (((Gk_rx fnd eq) R (k_mg (-1) q.1 (k_mg 1 q.2.1 f))).1, ((Gk_rx fnd eq) R (k_mg (-1) q.1 (k_mg 1 q.2.1 f))).2 + q.2.2) else (Gk_rx fnd eq) R f
def Gk_low (fnd : (α : Type) → (α → Bool) → List α → Option α) (eq : Nat → Nat → Bool) (S : k_S) (f : List (Int × Nat)) (c : Int) : Option Int := ((Gk_lb fnd eq) S ((Gk_rx fnd eq) S.2.2.2.1 ((Gk_nf fnd eq) S f).1).1).map (fun m => m + ((Gk_rx fnd eq) S.2.2.2.1 ((Gk_nf fnd eq) S f).1).2 + ((Gk_nf fnd eq) S f).2 + c)
def Gk_rw (fnd : (α : Type) → (α → Bool) → List α → Option α) (eq : Nat → Nat → Bool) (S : k_S) : List Nat → Nat
  | [] => 0
  | v :: st => (if (Gk_one fnd eq) ((Gk_ty fnd eq) S v) then 1 else 2) + (Gk_rw fnd eq) S st
def Gk_rcv (fnd : (α : Type) → (α → Bool) → List α → Option α) (eq : Nat → Nat → Bool) (Lb : Nat → k_I) (S : k_S) (args : List Nat) (o : Nat) : Bool := match args with
  | a :: _ => eq (((Gk_ty fnd eq) S a).1) (2) && eq ((Lb ((Gk_ty fnd eq) S a).2.1.toNat).1) (0) && eq ((Lb ((Gk_ty fnd eq) S a).2.1.toNat).2.1) (pg_ci o) && decide (pg_ci o < 11)
  | [] => false
def Gk_subs (fnd : (α : Type) → (α → Bool) → List α → Option α) (eq : Nat → Nat → Bool) (S : k_S) : List Nat → List k_T → Bool
  | [], [] => true
  | v :: vl, t :: tl => k_sub ((Gk_ty fnd eq) S v) t && (Gk_subs fnd eq) S vl tl
  | _, _ => false
def Gk_kno (fnd : (α : Type) → (α → Bool) → List α → Option α) (eq : Nat → Nat → Bool) (S : k_S) (args : List Nat) (q : Nat × Nat × k_T) : Bool := match args[q.1]? with
  | some a => match (Gk_fk fnd eq) S a q.2.1 with
    | some w => k_sub ((Gk_ty fnd eq) S w) q.2.2
    | none => false
  | none => false
def Gk_cm (fnd : (α : Type) → (α → Bool) → List α → Option α) (eq : Nat → Nat → Bool) (W : List (Nat × Nat)) (S : k_S) (args : List Nat) (mi mx fr lo : Nat) (c : k_C) : Bool := eq (c.1) (mi) && (Gk_subs fnd eq) S args c.2.1 && c.2.2.1.all ((Gk_kno fnd eq) S args) && c.2.2.2.2.1.all (fun q => decide (q ∈ W)) && decide (c.2.2.2.2.2.1 + 1 ≤ fr) && decide (8 + (mx + 11) + c.2.2.2.2.2.2 ≤ lo)
def Gk_left (fnd : (α : Type) → (α → Bool) → List α → Option α) (eq : Nat → Nat → Bool) (S : k_S) (W' : List (Nat × Nat)) : List (Nat × Nat × Nat) := S.2.2.2.2.2.filter (fun u => eq (((Gk_ty fnd eq) S u.1).1) (2) && !decide ((((Gk_ty fnd eq) S u.1).2.1.toNat, u.2.1) ∈ W'))
def Gk_aft (fnd : (α : Type) → (α → Bool) → List α → Option α) (eq : Nat → Nat → Bool) (go : k_S → k_Fr → List k_Fr → Bool) (S : k_S) (f : k_Fr) (fs : List k_Fr) (rest : List Nat) (c : k_C) : Bool := match c.2.2.2.1 with
  | some t => go (k_new (k_kn S ((Gk_left fnd eq) S c.2.2.2.2.1)) t) (f.1, f.2.1 + 3, f.2.2.1, S.1 :: rest, f.2.2.2.2) fs
  | none => go (k_kn S ((Gk_left fnd eq) S c.2.2.2.2.1)) (f.1, f.2.1 + 3, f.2.2.1, rest, f.2.2.2.2) fs
def Gk_inv (fnd : (α : Type) → (α → Bool) → List α → Option α) (eq : Nat → Nat → Bool) (go : k_S → k_Fr → List k_Fr → Bool) (Lb : Nat → k_I) (cs : List k_C) (inl : List Nat) (W : List (Nat × Nat)) (S : k_S) (f : k_Fr) (fs : List k_Fr) (virt : Bool) (mi : Nat) (args rest : List Nat) : Bool :=
  decide ((Gk_rw fnd eq) S args ≤ (k_pM mi).2.2.1) && decide ((Gk_rw fnd eq) S rest ≤ 8) && decide (args.length = pg_na.getD mi 0 + (if virt then 1 else 0)) && (!virt || (Gk_rcv fnd eq) Lb S args (k_pe mi).2.2) &&
  (if decide (mi ∈ inl) then args.all (fun v => (Gk_one fnd eq) ((Gk_ty fnd eq) S v)) && decide (1 ≤ f.2.2.2.2.1) && decide (19 + (k_pM mi).2.2.1 ≤ f.2.2.2.2.2) && go S (mi, 0, k_ln 0 args, [], f.2.2.2.2.1 - 1, f.2.2.2.2.2 - (19 + (k_pM mi).2.2.1)) ((f.1, f.2.1 + 3, f.2.2.1, rest, f.2.2.2.2) :: fs)
   else match (fnd _ ((Gk_cm fnd eq) W S args mi (k_pM mi).2.2.1 f.2.2.2.2.1 f.2.2.2.2.2) cs) with
    | some c => (Gk_aft fnd eq) go S f fs rest c
    | none => false)
def Gk_abs (fnd : (α : Type) → (α → Bool) → List α → Option α) (eq : Nat → Nat → Bool) (S : k_S) (a : Nat) : k_S := if -2147483648 < (Gk_lo fnd eq) S a then k_new S (0, 0, max (-(Gk_lo fnd eq) S a) ((Gk_hi fnd eq) S a)) else k_new S k_top
def Gk_copy (fnd : (α : Type) → (α → Bool) → List α → Option α) (eq : Nat → Nat → Bool) (Lb : Nat → k_I) (W : List (Nat × Nat)) (S : k_S) (n dp a sp a0 : Nat) : Bool :=
  (Gk_isI fnd eq) S n && (Gk_isI fnd eq) S dp && (Gk_isI fnd eq) S sp && decide (0 ≤ (Gk_lo fnd eq) S sp) && decide ((Gk_hi fnd eq) S sp = 0) && decide (0 ≤ (Gk_lo fnd eq) S dp) && decide ((Gk_hi fnd eq) S dp = 0) && decide (0 ≤ (Gk_lo fnd eq) S n) && eq (((Gk_ty fnd eq) S a).1) (2) && eq (((Gk_ty fnd eq) S a0).1) (2) &&
eq (  (Lb ((Gk_ty fnd eq) S a).2.1.toNat).1) (1) && eq ((Lb ((Gk_ty fnd eq) S a0).2.1.toNat).1) (1) && eq ((Lb ((Gk_ty fnd eq) S a).2.1.toNat).2.1) (0) && eq ((Lb ((Gk_ty fnd eq) S a0).2.1.toNat).2.1) (0) && decide ((Lb ((Gk_ty fnd eq) S a).2.1.toNat).2.2.2.length = 1) && decide ((Lb ((Gk_ty fnd eq) S a0).2.1.toNat).2.2.2.length = 1) &&
  decide ((Gk_hi fnd eq) S n ≤ (Lb ((Gk_ty fnd eq) S a).2.1.toNat).2.2.1) && decide ((Gk_hi fnd eq) S n ≤ (Lb ((Gk_ty fnd eq) S a0).2.1.toNat).2.2.1) && decide ((k_el (Lb ((Gk_ty fnd eq) S a).2.1.toNat) 0).2.1 ≤ (k_el (Lb ((Gk_ty fnd eq) S a0).2.1.toNat) 0).2.1) && decide ((k_el (Lb ((Gk_ty fnd eq) S a0).2.1.toNat) 0).2.2 ≤ (k_el (Lb ((Gk_ty fnd eq) S a).2.1.toNat) 0).2.2) && decide ((((Gk_ty fnd eq) S a).2.1.toNat, 0) ∈ W)
def Gk_lib (fnd : (α : Type) → (α → Bool) → List α → Option α) (eq : Nat → Nat → Bool) (go : k_S → k_Fr → List k_Fr → Bool) (Lb : Nat → k_I) (W : List (Nat × Nat)) (S : k_S) (f : k_Fr) (fs : List k_Fr) (k : Nat) : Bool := match k, f.2.2.2.1 with
  | 10, b :: a :: st => (Gk_isI fnd eq) S a && (Gk_isI fnd eq) S b && decide (1 ≤ f.2.2.2.2.1) && decide ((Gk_rw fnd eq) S st + 13 ≤ f.2.2.2.2.2) && go ((Gk_max fnd eq) S a b) (f.1, f.2.1 + 3, f.2.2.1, S.1 :: st, f.2.2.2.2) fs
  | 11, b :: a :: st => (Gk_isI fnd eq) S a && (Gk_isI fnd eq) S b && decide (1 ≤ f.2.2.2.2.1) && decide ((Gk_rw fnd eq) S st + 13 ≤ f.2.2.2.2.2) && go ((Gk_min fnd eq) S a b) (f.1, f.2.1 + 3, f.2.2.1, S.1 :: st, f.2.2.2.2) fs
  | 12, a :: st => (Gk_isI fnd eq) S a && decide (1 ≤ f.2.2.2.2.1) && decide ((Gk_rw fnd eq) S st + 13 ≤ f.2.2.2.2.2) && go ((Gk_abs fnd eq) S a) (f.1, f.2.1 + 3, f.2.2.1, S.1 :: st, f.2.2.2.2) fs
  | 13, n :: dp :: a :: sp :: a0 :: st => (Gk_copy fnd eq) Lb W S n dp a sp a0 && decide (1 ≤ f.2.2.2.2.1) && decide ((Gk_rw fnd eq) S st + 100 ≤ f.2.2.2.2.2) && go S (f.1, f.2.1 + 3, f.2.2.1, st, f.2.2.2.2) fs
  | _, _ => false
def Gk_retX (fnd : (α : Type) → (α → Bool) → List α → Option α) (eq : Nat → Nat → Bool) (go : k_S → k_Fr → List k_Fr → Bool) (ret : Option k_T) (S : k_S) (v : Nat) (fs : List k_Fr) : Bool := match fs with
  | [] => (match ret with | some t => k_sub ((Gk_ty fnd eq) S v) t | none => false)
  | f :: fs => go S (f.1, f.2.1, f.2.2.1, v :: f.2.2.2.1, f.2.2.2.2) fs
def Gk_retI (fnd : (α : Type) → (α → Bool) → List α → Option α) (eq : Nat → Nat → Bool) (go : k_S → k_Fr → List k_Fr → Bool) (ret : Option k_T) (S : k_S) (f : k_Fr) (fs : List k_Fr) : Bool := match f.2.2.2.1 with
  | [v] => (Gk_isI fnd eq) S v && (decide ((k_pM f.1).2.2.2 = some .int) || (decide ((k_pM f.1).2.2.2 = some .boolean) && decide (0 ≤ (Gk_lo fnd eq) S v) && decide ((Gk_hi fnd eq) S v ≤ 1))) && (Gk_retX fnd eq) go ret S v fs
  | _ => false
def Gk_retA (fnd : (α : Type) → (α → Bool) → List α → Option α) (eq : Nat → Nat → Bool) (go : k_S → k_Fr → List k_Fr → Bool) (ret : Option k_T) (S : k_S) (f : k_Fr) (fs : List k_Fr) : Bool := match f.2.2.2.1 with
  | [v] => (eq (((Gk_ty fnd eq) S v).1) (2) || eq (((Gk_ty fnd eq) S v).1) (3)) && (match (k_pM f.1).2.2.2 with | some (.object _) => true | some (.array _) => true | _ => false) && (Gk_retX fnd eq) go ret S v fs
  | _ => false
def Gk_call (fnd : (α : Type) → (α → Bool) → List α → Option α) (eq : Nat → Nat → Bool) (go : k_S → k_Fr → List k_Fr → Bool) (Lb : Nat → k_I) (cs : List k_C) (inl : List Nat) (W : List (Nat × Nat)) (S : k_S) (f : k_Fr) (fs : List k_Fr) (virt : Bool) (q : Nat × Nat) : Bool :=
  if eq (q.1) ((if virt then 0 else 1)) then (Gk_inv fnd eq) go Lb cs inl W S f fs virt q.2 (f.2.2.2.1.take (pg_na.getD q.2 0 + (if virt then 1 else 0))).reverse (f.2.2.2.1.drop (pg_na.getD q.2 0 + (if virt then 1 else 0)))
  else !virt && (Gk_lib fnd eq) go Lb W S f fs q.1
def Gk_body (fnd : (α : Type) → (α → Bool) → List α → Option α) (eq : Nat → Nat → Bool) (go : k_S → k_Fr → List k_Fr → Bool) (Lb : Nat → k_I) (cs : List k_C) (inl : List Nat) (W : List (Nat × Nat)) (ret : Option k_T) (S : k_S) (f : k_Fr) (fs : List k_Fr) (i : Instr) (n : Nat) : Bool := match k_kind i with
  | 0 => (match (Gk_step fnd eq) Lb W (k_pe f.1).2.2 (k_pM f.1).2.2.1 S f.2.1 f.2.2.1 f.2.2.2.1 i n with | some ss => ss.all (fun s => go s.1 (f.1, s.2.1, s.2.2.1, s.2.2.2, f.2.2.2.2) fs) | none => false)
  | 1 => eq (n) (1) && (Gk_retI fnd eq) go ret S f fs
  | 2 => eq (n) (1) && (Gk_retA fnd eq) go ret S f fs
  | 3 => eq (n) (1) && k_retV go ret S f fs
  | 4 => eq (n) (3) && (match (Gk_fd fnd eq) (pg_ml (k_pe f.1).2.2) (k_ix i) with | some q => (Gk_call fnd eq) go Lb cs inl W S f fs true q | none => false)
  | _ => eq (n) (3) && (match (Gk_fd fnd eq) (pg_ml (k_pe f.1).2.2) (k_ix i) with | some q => (Gk_call fnd eq) go Lb cs inl W S f fs false q | none => false)
def Gk_join (fnd : (α : Type) → (α → Bool) → List α → Option α) (eq : Nat → Nat → Bool) (mi fr lo : Nat) (m0 : List (Int × Nat) × Int) (S : k_S) (f : k_Fr) (P : k_Pt) : Bool :=
eq (  f.1) (mi) && eq (f.2.2.2.2.1) (fr) && eq (f.2.2.2.2.2) (lo) && f.2.2.2.1.isEmpty && P.2.2.2.1.all (fun q => decide (q.2 < P.2.1.length)) &&
  (match (Gk_selL fnd eq) S f.2.2.1 P.2.1 with
    | some vl => (match (Gk_selK fnd eq) S vl P.2.2.1 with
      | some wl => (match (Gk_low fnd eq) S (P.2.2.2.1.map (fun q => (q.1, (vl ++ wl).getD q.2 0))) P.2.2.2.2, (Gk_low fnd eq) S (m0.1 ++ (P.2.2.2.1.map (fun q => (q.1, (vl ++ wl).getD q.2 0))).map (fun q => (-q.1, q.2))) (m0.2 - P.2.2.2.2) with
        | some a, some b => decide (0 ≤ a) && decide (1 ≤ b)
        | _, _ => false)
      | none => false)
    | none => false)
def Gk_chk (fnd : (α : Type) → (α → Bool) → List α → Option α) (eq : Nat → Nat → Bool) (Lb : Nat → k_I) (cs : List k_C) (inl : List Nat) (W : List (Nat × Nat)) (ret : Option k_T) (mi fr lo : Nat) (pts : List k_Pt) (m0 : List (Int × Nat) × Int) : Nat → Bool → k_S → k_Fr → List k_Fr → Bool
  | 0, _, _, _, _ => false
  | n + 1, b, S, f, fs => (b && fs.isEmpty && pts.any (fun P => eq (P.1) (f.2.1) && (Gk_join fnd eq) mi fr lo m0 S f P)) || (match (fnd _ (fun q => eq (q.1) (f.2.1)) (k_pe f.1).2.1) with
      | some q => (Gk_body fnd eq) ((Gk_chk fnd eq) Lb cs inl W ret mi fr lo pts m0 n true) Lb cs inl W ret S f fs q.2.1 q.2.2
      | none => false)
def Gk_keeps (fnd : (α : Type) → (α → Bool) → List α → Option α) (eq : Nat → Nat → Bool) (Lb : Nat → k_I) (cs : List k_C) (inl : List Nat) (fuel : Nat) (c : k_C) (pts : List k_Pt) : Bool :=
  c.2.1.all (Gk_one fnd eq) && (Gk_chk fnd eq) Lb cs inl c.2.2.2.2.1 c.2.2.2.1 c.1 c.2.2.2.2.2.1 c.2.2.2.2.2.2 pts ([], 1000000000000000) fuel false (k_init (k_as 0 c.2.1) c.2.2.1) (c.1, 0, k_lnum 0 (k_as 0 c.2.1), [], c.2.2.2.2.2) [] &&
  pts.all (fun P => P.2.2.2.1.all (fun q => decide (q.2 < P.2.1.length)) && (Gk_chk fnd eq) Lb cs inl c.2.2.2.2.1 c.2.2.2.1 c.1 c.2.2.2.2.2.1 c.2.2.2.2.2.2 pts P.2.2.2 fuel false (k_init P.2.1 P.2.2.1) (c.1, P.1, k_lnum 0 P.2.1, [], c.2.2.2.2.2) [])
theorem k_fi_all : k_fi = kF0 := by
  funext α p l
  induction l with
  | nil => rfl
  | cons a l ih =>
    show (Bool.rec (k_fi α p l) (some a) (p a) : Option α) = (a :: l).find? p
    rw [List.find?_cons]
    cases p a
    · exact ih
    · rfl
theorem k_be_all : Nat.beq = kE0 := by
  funext a b
  show Nat.beq a b = (a == b)
  by_cases h : a = b
  · subst h
    rw [Nat.beq_refl, beq_self_eq_true]
  · have h1 : Nat.beq a b = false := by
      cases e : Nat.beq a b
      · rfl
      · exact absurd (Nat.eq_of_beq_eq_true e) h
    have h2 : (a == b) = false := by
      cases e : a == b
      · rfl
      · exact absurd (beq_iff_eq.mp e) h
    rw [h1, h2]
theorem Gk_arms_eq : Gk_arms kF0 kE0 = k_arms := by
  funext S a pc L st l
  induction l with
  | nil => rfl
  | cons q l ih => exact congrArg (fun x => k_arm S a q.1 pc q.2 L st ++ x) ih
theorem Gk_sw_eq : Gk_sw kF0 kE0 = k_sw := by
  delta Gk_sw k_sw
  simp only [Gk_arms_eq]
  try rfl
theorem Gk_step_eq : Gk_step kF0 kE0 = k_step := by
  delta Gk_step k_step
  simp only [Gk_sw_eq]
  try rfl
theorem Gk_selL_eq : Gk_selL kF0 kE0 = k_selL := by
  funext S L l
  induction l with
  | nil => rfl
  | cons q l ih => exact congrArg (fun x : Option (List Nat) => (match k_loc L q.1 with | some v => if k_sub (k_ty S v) q.2 then x.map (fun vl => v :: vl) else none | none => none)) ih
theorem Gk_selK_eq : Gk_selK kF0 kE0 = k_selK := by
  funext S vl l
  induction l with
  | nil => rfl
  | cons q l ih => exact congrArg (fun x : Option (List Nat) => (match vl[q.1]? with | some a => (match k_fk S a q.2.1 with | some w => if k_sub (k_ty S w) q.2.2 then x.map (fun wl => w :: wl) else none | none => none) | none => none)) ih
theorem Gk_nf_eq : Gk_nf kF0 kE0 = k_nf := by
  funext S l
  induction l with
  | nil => rfl
  | cons q l ih => exact congrArg (fun x : List (Int × Nat) × Int => (k_mg (q.1 * (k_lin S q.2).1) (k_lin S q.2).2.1 x.1, x.2 + q.1 * (k_lin S q.2).2.2)) ih
theorem Gk_lb_eq : Gk_lb kF0 kE0 = k_lb := by
  funext S l
  induction l with
  | nil => rfl
  | cons q l ih => exact congrArg (fun x : Option Int => if q.1 = 0 then x else if (k_ty S q.2).1 = 0 then x.map (fun m => m + (if 0 ≤ q.1 then q.1 * k_lo S q.2 else q.1 * k_hi S q.2)) else none) ih
theorem Gk_rx_eq : Gk_rx kF0 kE0 = k_rx := by
  funext R
  induction R with
  | nil => rfl
  | cons q R ih =>
    funext f
    exact congrArg (fun x : List (Int × Nat) → List (Int × Nat) × Int => if 1 ≤ k_co q.1 f ∧ k_co q.2.1 f ≤ -1 then ((x (k_mg (-1) q.1 (k_mg 1 q.2.1 f))).1, (x (k_mg (-1) q.1 (k_mg 1 q.2.1 f))).2 + q.2.2) else x f) ih
theorem Gk_low_eq : Gk_low kF0 kE0 = k_low := by
  delta Gk_low k_low
  simp only [Gk_nf_eq, Gk_lb_eq, Gk_rx_eq]
  try rfl
theorem Gk_rw_eq : Gk_rw kF0 kE0 = k_rw := by
  funext S l
  induction l with
  | nil => rfl
  | cons v l ih => exact congrArg (fun x : Nat => (if k_one (k_ty S v) then 1 else 2) + x) ih
theorem Gk_subs_eq : Gk_subs kF0 kE0 = k_subs := by
  funext S l
  induction l with
  | nil => funext m; cases m <;> rfl
  | cons v l ih =>
    funext m
    cases m with
    | nil => rfl
    | cons t tl => exact congrArg (fun x : List k_T → Bool => k_sub (k_ty S v) t && x tl) ih
theorem Gk_cm_eq : Gk_cm kF0 kE0 = k_cm := by
  delta Gk_cm k_cm
  simp only [Gk_subs_eq]
  try rfl
theorem Gk_inv_eq : Gk_inv kF0 kE0 = k_inv := by
  delta Gk_inv k_inv
  simp only [Gk_rw_eq, Gk_cm_eq]
  try rfl
theorem Gk_lib_eq : Gk_lib kF0 kE0 = k_lib := by
  delta Gk_lib k_lib
  simp only [Gk_rw_eq]
  try rfl
theorem Gk_call_eq : Gk_call kF0 kE0 = k_call := by
  delta Gk_call k_call
  simp only [Gk_inv_eq, Gk_lib_eq]
  try rfl
theorem Gk_body_eq : Gk_body kF0 kE0 = k_body := by
  delta Gk_body k_body
  simp only [Gk_step_eq, Gk_call_eq]
  try rfl
theorem Gk_join_eq : Gk_join kF0 kE0 = k_join := by
  delta Gk_join k_join
  simp only [Gk_selL_eq, Gk_selK_eq, Gk_low_eq]
  try rfl
theorem Gk_chk_eq : Gk_chk kF0 kE0 = k_chk := by
  funext Lb cs inl W ret mi fr lo pts m0 n
  induction n with
  | zero => rfl
  | succ n ih =>
    funext b S f fs
    have e : Gk_chk kF0 kE0 Lb cs inl W ret mi fr lo pts m0 (n + 1) b S f fs = ((b && fs.isEmpty && pts.any (fun P => kE0 P.1 f.2.1 && Gk_join kF0 kE0 mi fr lo m0 S f P)) || (match kF0 _ (fun q => kE0 q.1 f.2.1) (k_pe f.1).2.1 with
      | some q => Gk_body kF0 kE0 (Gk_chk kF0 kE0 Lb cs inl W ret mi fr lo pts m0 n true) Lb cs inl W ret S f fs q.2.1 q.2.2
      | none => false)) := rfl
    rw [e, ih, Gk_join_eq, Gk_body_eq]
    rfl
theorem Gk_keeps_eq : Gk_keeps kF0 kE0 = k_keeps := by
  delta Gk_keeps k_keeps
  simp only [Gk_chk_eq]
  try rfl
theorem Gk_keeps_is : Gk_keeps k_fi Nat.beq = k_keeps := by rw [k_fi_all, k_be_all, Gk_keeps_eq]
/-- k_keeps_ok, told quickly -/
theorem k_keeps_q {l : Launch} {D : va_G} {tys : List (ClassId × FieldType)} {A : Nat → Prop} {X : State → Prop} {Sg : Nat → Option Nat} {cA : Nat → ClassId} {Lb : Nat → k_I} {cs : List k_C} {inl : List Nat} (hT : k_tys tys cA) (hcs : ∀ c ∈ cs, k_sat l D tys A X Sg cA Lb c) {fuel : Nat} {c : k_C} {pts : List k_Pt} (e : Gk_keeps k_fi Nat.beq Lb cs inl fuel c pts = true) : k_sat l D tys A X Sg cA Lb c := by
  rw [Gk_keeps_is] at e
  exact k_keeps_ok hT hcs e
