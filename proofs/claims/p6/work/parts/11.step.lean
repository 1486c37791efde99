/-! one instruction over abstract states: none where it isn't safe, else all that may come -/
abbrev k_N : Type := k_S × Nat × List (Nat × Nat) × List Nat
def k_fd (l : List (Nat × Nat × Nat)) (i : Nat) : Option (Nat × Nat) := (l.find? (fun q => q.1 == i)).map (fun q => q.2)
def k_loc (L : List (Nat × Nat)) (i : Nat) : Option Nat := (L.find? (fun q => q.1 == i)).map (fun q => q.2)
def k_one (t : k_T) : Bool := t.1 == 0 || t.1 == 2 || t.1 == 3
def k_sto (S : k_S) (i v : Nat) (L : List (Nat × Nat)) : List (Nat × Nat) := (i, v) :: L.filter (fun q => !(q.1 == i) && (!(q.1 + 1 == i) || k_one (k_ty S q.2)))
def k_isI (S : k_S) (v : Nat) : Bool := (k_ty S v).1 == 0
def k_isL (S : k_S) (v : Nat) : Bool := (k_ty S v).1 == 1 || (k_ty S v).1 == 4
def k_push (S : k_S) (t : k_T) (pc : Nat) (L : List (Nat × Nat)) (st : List Nat) : Option (List k_N) := some [(k_new S t, pc, L, S.1 :: st)]
def k_bin (S : k_S) (pc : Nat) (L : List (Nat × Nat)) (st : List Nat) (f : k_S → Nat → Nat → k_S) : Option (List k_N) := match st with
  | b :: a :: st => if k_isI S a && k_isI S b then some [(f S a b, pc + 1, L, S.1 :: st)] else none
  | _ => none
def k_binL (S : k_S) (pc : Nat) (L : List (Nat × Nat)) (st : List Nat) : Option (List k_N) := match st with
  | b :: a :: st => if k_isL S a && k_isL S b then some [(k_new S (1, 0, 0), pc + 1, L, S.1 :: st)] else none
  | _ => none
def k_load (S : k_S) (ok : k_T → Bool) (i pc : Nat) (L : List (Nat × Nat)) (st : List Nat) : Option (List k_N) := match k_loc L i with
  | some v => if ok (k_ty S v) then some [(S, pc, L, v :: st)] else none
  | none => none
def k_store (S : k_S) (ok : k_T → Bool) (mx i pc : Nat) (L : List (Nat × Nat)) (st : List Nat) : Option (List k_N) := match st with
  | v :: st => if ok (k_ty S v) && decide (i < mx) then some [(S, pc, k_sto S i v L, st)] else none
  | _ => none
def k_alt (S : k_S) (a b pc : Nat) (L : List (Nat × Nat)) (st : List Nat) : List k_N := if k_emp S a || k_emp S b then [] else [(S, pc, L, st)]
def k_cond (c : ClassFile.Cond) (S : k_S) (a b : Nat) : k_S × k_S := match c with
  | .eq => (k_eq S a b, k_ne S a b)
  | .ne => (k_ne S a b, k_eq S a b)
  | .lt => (k_lt S a b, k_le S b a)
  | .ge => (k_le S b a, k_lt S a b)
  | .gt => (k_lt S b a, k_le S a b)
  | .le => (k_le S a b, k_lt S b a)
def k_tgt (pc : Nat) (off : Int) : Nat := ((pc : Int) + off).toNat
def k_tok (pc : Nat) (off : Int) : Bool := decide (0 ≤ (pc : Int) + off)
def k_brn (c : ClassFile.Cond) (S : k_S) (a b pc : Nat) (off : Int) (L : List (Nat × Nat)) (st : List Nat) : Option (List k_N) :=
  if k_isI S a && k_isI S b && k_tok pc off then some (k_alt (k_cond c S a b).1 a b (k_tgt pc off) L st ++ k_alt (k_cond c S a b).2 a b (pc + 3) L st) else none
def k_fit (ft : FieldType) (t : k_T) : Bool := match ft with
  | .int => t.1 == 0
  | .boolean => t.1 == 0 && decide (0 ≤ t.2.1) && decide (t.2.2 ≤ 1)
  | .long => t.1 == 1 || t.1 == 4
  | .object _ => t.1 == 2 || t.1 == 3
  | .array _ => t.1 == 2 || t.1 == 3
  | _ => false
def k_get (Lb : Nat → k_I) (own : Nat) (S : k_S) (pc ix : Nat) (L : List (Nat × Nat)) (st : List Nat) : Option (List k_N) := match st with
  | a :: st => match k_fd (pg_fl own) ix with
    | some q => if (k_ty S a).1 == 2 && (Lb (k_ty S a).2.1.toNat).1 == 0 && (Lb (k_ty S a).2.1.toNat).2.1 == q.1 && decide (q.1 < 11) && decide (q.2 < ch_N q.1) then
        match S.2.2.2.2.2.find? (fun u => u.1 == a && u.2.1 == q.2) with
        | some u => some [(S, pc + 3, L, u.2.2 :: st)]
        | none => match (Lb (k_ty S a).2.1.toNat).2.2.2[q.2]? with
          | some t => some [(k_kn (k_new S t) ((a, q.2, S.1) :: S.2.2.2.2.2), pc + 3, L, S.1 :: st)]
          | none => none
      else none
    | none => none
  | _ => none
def k_keep (S : k_S) (lb k : Nat) (u : Nat × Nat × Nat) : Bool := !(u.2.1 == k) || ((k_ty S u.1).1 == 2 && !((k_ty S u.1).2.1.toNat == lb))
def k_put (Lb : Nat → k_I) (W : List (Nat × Nat)) (own : Nat) (S : k_S) (pc ix : Nat) (L : List (Nat × Nat)) (st : List Nat) : Option (List k_N) := match st with
  | v :: a :: st => match k_fd (pg_fl own) ix with
    | some q => if (k_ty S a).1 == 2 && (Lb (k_ty S a).2.1.toNat).1 == 0 && (Lb (k_ty S a).2.1.toNat).2.1 == q.1 && decide (q.1 < 11) && decide (q.2 < ch_N q.1) && decide (ch_N q.1 = (Lb (k_ty S a).2.1.toNat).2.2.1) && decide (((k_ty S a).2.1.toNat, q.2) ∈ W) && !(ch_T q.1 q.2).2.2.2 && k_fit (ch_ty q.1 q.2) (k_ty S v) then
        match (Lb (k_ty S a).2.1.toNat).2.2.2[q.2]? with
        | some t => if k_sub (k_ty S v) t then some [(k_kn S ((a, q.2, v) :: S.2.2.2.2.2.filter (k_keep S (k_ty S a).2.1.toNat q.2)), pc + 3, L, st)] else none
        | none => none
      else none
    | none => none
  | _ => none
/-- the places c * j + o, j from j0 on, n + 1 of them: what they may hold -/
def k_um (I : k_I) (c o : Int) : Nat → Int → k_T
  | 0, j => (0, (k_el I (c * j + o).toNat).2.1, (k_el I (c * j + o).toNat).2.2)
  | n + 1, j => (0, min (k_el I (c * j + o).toNat).2.1 (k_um I c o n (j + 1)).2.1, max (k_el I (c * j + o).toNat).2.2 (k_um I c o n (j + 1)).2.2)
def k_elT (I : k_I) (S : k_S) (i : Nat) : k_T :=
  if I.2.2.2.length = 1 then (0, (k_el I 0).2.1, (k_el I 0).2.2)
  else if (k_ty S (k_lin S i).2.1).1 = 0 then k_um I (k_lin S i).1 (k_lin S i).2.2 (k_hi S (k_lin S i).2.1 - k_lo S (k_lin S i).2.1).toNat (k_lo S (k_lin S i).2.1) else k_top
def k_inb (S : k_S) (i n : Nat) : Bool := k_isI S i && decide (0 ≤ k_lo S i) && decide (k_hi S i < n)
def k_ald (Lb : Nat → k_I) (ts : List Nat) (S : k_S) (pc : Nat) (L : List (Nat × Nat)) (st : List Nat) : Option (List k_N) := match st with
  | i :: a :: st => if (k_ty S a).1 == 2 && (Lb (k_ty S a).2.1.toNat).1 == 1 && decide ((Lb (k_ty S a).2.1.toNat).2.1 ∈ ts) && k_inb S i (Lb (k_ty S a).2.1.toNat).2.2.1 then some [(k_new S (k_elT (Lb (k_ty S a).2.1.toNat) S i), pc + 1, L, S.1 :: st)] else none
  | _ => none
def k_aald (Lb : Nat → k_I) (S : k_S) (pc : Nat) (L : List (Nat × Nat)) (st : List Nat) : Option (List k_N) := match st with
  | i :: a :: st => if (k_ty S a).1 == 2 && (Lb (k_ty S a).2.1.toNat).1 == 2 && decide ((Lb (k_ty S a).2.1.toNat).2.1 ∈ [3, 4, 5]) && decide ((Lb (k_ty S a).2.1.toNat).2.2.2.length = 1) && k_inb S i (Lb (k_ty S a).2.1.toNat).2.2.1 then some [(k_new S (k_el (Lb (k_ty S a).2.1.toNat) 0), pc + 1, L, S.1 :: st)] else none
  | _ => none
/-- what every one of these places takes -/
def k_im (I : k_I) (c o : Int) : Nat → Int → k_T
  | 0, j => (0, (k_el I (c * j + o).toNat).2.1, (k_el I (c * j + o).toNat).2.2)
  | n + 1, j => (0, max (k_el I (c * j + o).toNat).2.1 (k_im I c o n (j + 1)).2.1, min (k_el I (c * j + o).toNat).2.2 (k_im I c o n (j + 1)).2.2)
def k_elI (I : k_I) (S : k_S) (i : Nat) : k_T :=
  if I.2.2.2.length = 1 then (0, (k_el I 0).2.1, (k_el I 0).2.2)
  else if (k_ty S (k_lin S i).2.1).1 = 0 then k_im I (k_lin S i).1 (k_lin S i).2.2 (k_hi S (k_lin S i).2.1 - k_lo S (k_lin S i).2.1).toNat (k_lo S (k_lin S i).2.1) else (0, 1, 0)
def k_ast (Lb : Nat → k_I) (W : List (Nat × Nat)) (t : Nat) (bd : k_T) (S : k_S) (pc : Nat) (L : List (Nat × Nat)) (st : List Nat) : Option (List k_N) := match st with
  | v :: i :: a :: st => if (k_ty S a).1 == 2 && (Lb (k_ty S a).2.1.toNat).1 == 1 && (Lb (k_ty S a).2.1.toNat).2.1 == t && k_inb S i (Lb (k_ty S a).2.1.toNat).2.2.1 && k_isI S v && k_sub (k_ty S v) (k_elI (Lb (k_ty S a).2.1.toNat) S i) && k_sub (k_ty S v) bd && decide (((k_ty S a).2.1.toNat, 0) ∈ W) then some [(S, pc + 1, L, st)] else none
  | _ => none
def k_alen (Lb : Nat → k_I) (S : k_S) (pc : Nat) (L : List (Nat × Nat)) (st : List Nat) : Option (List k_N) := match st with
  | a :: st => if (k_ty S a).1 == 2 && (Lb (k_ty S a).2.1.toNat).1 == 1 && decide ((Lb (k_ty S a).2.1.toNat).2.1 < 7) && decide ((Lb (k_ty S a).2.1.toNat).2.2.1 < 100000) then k_push S (0, (Lb (k_ty S a).2.1.toNat).2.2.1, (Lb (k_ty S a).2.1.toNat).2.2.1) (pc + 1) L st else none
  | _ => none
/-- the arms of a switch, one behind another -/
def k_arm (S : k_S) (a : Nat) (x : Int) (pc : Nat) (off : Int) (L : List (Nat × Nat)) (st : List Nat) : List k_N := if k_emp (k_ref S a x x) a then [] else [(k_ref S a x x, k_tgt pc off, L, st)]
def k_arms (S : k_S) (a pc : Nat) (L : List (Nat × Nat)) (st : List Nat) : List (Int × Int) → List k_N
  | [] => []
  | q :: l => k_arm S a q.1 pc q.2 L st ++ k_arms S a pc L st l
def k_tab (lo : Int) : Nat → List Int → List (Int × Int)
  | _, [] => []
  | k, o :: l => (lo + (k : Int), o) :: k_tab lo (k + 1) l
def k_sw (S : k_S) (pc : Nat) (dflt : Int) (ps : List (Int × Int)) (L : List (Nat × Nat)) (st : List Nat) : Option (List k_N) := match st with
  | a :: st => if k_isI S a && k_tok pc dflt && ps.all (fun q => k_tok pc q.2) then some ((S, k_tgt pc dflt, L, st) :: k_arms S a pc L st ps) else none
  | _ => none
def k_step (Lb : Nat → k_I) (W : List (Nat × Nat)) (own mx : Nat) (S : k_S) (pc : Nat) (L : List (Nat × Nat)) (st : List Nat) (i : Instr) (n : Nat) : Option (List k_N) := match i with
  | .iconst v => if n == 1 && k_inr v v then k_push S (0, v, v) (pc + 1) L st else none
  | .bipush v => if n == 2 && decide (-128 ≤ v) && decide (v ≤ 127) then k_push S (0, v, v) (pc + 2) L st else none
  | .sipush v => if n == 3 && decide (-32768 ≤ v) && decide (v ≤ 32767) then k_push S (0, v, v) (pc + 3) L st else none
  | .ldc ix => if n == 2 then (match (pg_kl own).find? (fun q => q.1 == ix) with | some q => k_push S (0, q.2.toInt, q.2.toInt) (pc + 2) L st | none => none) else none
  | .ldc_w ix => if n == 3 then (match (pg_kl own).find? (fun q => q.1 == ix) with | some q => k_push S (0, q.2.toInt, q.2.toInt) (pc + 3) L st | none => none) else none
  | .ldc2_w ix => if n == 3 then (match (pg_jl own).find? (fun q => q.1 == ix) with | some q => k_push S (if q.2 = 0 then 1 else 4, 0, 0) (pc + 3) L st | none => none) else none
  | .iload_n k => if n == 1 then k_load S (fun t => t.1 == 0) k.val (pc + 1) L st else none
  | .iload k => if n == 2 then k_load S (fun t => t.1 == 0) k (pc + 2) L st else none
  | .lload_n k => if n == 1 then k_load S (fun t => t.1 == 1) k.val (pc + 1) L st else none
  | .aload_n k => if n == 1 then k_load S (fun t => t.1 == 2 || t.1 == 3) k.val (pc + 1) L st else none
  | .aload k => if n == 2 then k_load S (fun t => t.1 == 2 || t.1 == 3) k (pc + 2) L st else none
  | .istore_n k => if n == 1 then k_store S (fun t => t.1 == 0) mx k.val (pc + 1) L st else none
  | .istore k => if n == 2 then k_store S (fun t => t.1 == 0) mx k (pc + 2) L st else none
  | .astore_n k => if n == 1 then k_store S (fun t => t.1 == 2 || t.1 == 3) mx k.val (pc + 1) L st else none
  | .astore k => if n == 2 then k_store S (fun t => t.1 == 2 || t.1 == 3) mx k (pc + 2) L st else none
  | .iinc k d => if n == 3 && k_inr d d && decide (k < mx) then (match k_loc L k with
      | some v => if k_isI S v then some [(k_add (k_new S (0, d, d)) v S.1, pc + 3, k_sto S k (S.1 + 1) L, st)] else none
      | none => none) else none
  | .iadd => if n == 1 then k_bin S pc L st k_add else none
  | .isub => if n == 1 then k_bin S pc L st k_sbt else none
  | .imul => if n == 1 then k_bin S pc L st k_mul else none
  | .iand => if n == 1 then k_bin S pc L st k_and else none
  | .ior => if n == 1 then k_bin S pc L st (fun S a b => k_fold S a b (fun x y => x ||| y)) else none
  | .ixor => if n == 1 then k_bin S pc L st (fun S a b => k_fold S a b (fun x y => x ^^^ y)) else none
  | .ishl => if n == 1 then k_bin S pc L st (fun S a b => k_fold S a b (fun x y => x <<< (y &&& 31))) else none
  | .ishr => if n == 1 then k_bin S pc L st k_shr else none
  | .iushr => if n == 1 then k_bin S pc L st (fun S a b => k_fold S a b (fun x y => (x.toUInt32 >>> (y.toUInt32 &&& Int32.toUInt32 31)).toInt32)) else none
  | .idiv => if n == 1 then (match st with | b :: _ => if (k_isI S b) && (decide (0 < k_lo S b) || decide (k_hi S b < 0) || decide (b ∈ S.2.2.2.2.1)) then k_bin S pc L st k_div else none | _ => none) else none
  | .irem => if n == 1 then (match st with | b :: _ => if (k_isI S b) && (decide (0 < k_lo S b) || decide (k_hi S b < 0) || decide (b ∈ S.2.2.2.2.1)) then k_bin S pc L st k_rem else none | _ => none) else none
  | .ineg => if n == 1 then (match st with | a :: st => if k_isI S a then some [(k_neg S a, pc + 1, L, S.1 :: st)] else none | _ => none) else none
  | .i2l => if n == 1 then (match st with | a :: st => if k_isI S a then k_push S (1, 0, 0) (pc + 1) L st else none | _ => none) else none
  | .l2i => if n == 1 then (match st with | a :: st => if k_isL S a then k_push S k_top (pc + 1) L st else none | _ => none) else none
  | .ladd => if n == 1 then k_binL S pc L st else none
  | .lsub => if n == 1 then k_binL S pc L st else none
  | .lmul => if n == 1 then k_binL S pc L st else none
  | .lrem => if n == 1 then (match st with | b :: _ => if (k_ty S b).1 == 4 then k_binL S pc L st else none | _ => none) else none
  | .lushr => if n == 1 then (match st with | b :: a :: st => if k_isL S a && k_isI S b then k_push S (1, 0, 0) (pc + 1) L st else none | _ => none) else none
  | .dup => if n == 1 then (match st with | a :: st => if k_one (k_ty S a) then some [(S, pc + 1, L, a :: a :: st)] else none | _ => none) else none
  | .pop => if n == 1 then (match st with | a :: st => if k_one (k_ty S a) then some [(S, pc + 1, L, st)] else none | _ => none) else none
  | .dup_x1 => if n == 1 then (match st with | a :: b :: st => if k_one (k_ty S a) && k_one (k_ty S b) then some [(S, pc + 1, L, a :: b :: a :: st)] else none | _ => none) else none
  | .dup2 => if n == 1 then (match st with | a :: b :: st => if k_one (k_ty S a) && k_one (k_ty S b) then some [(S, pc + 1, L, a :: b :: a :: b :: st)] else none | _ => none) else none
  | .goto off => if n == 3 && k_tok pc off then some [(S, k_tgt pc off, L, st)] else none
  | .if_icmp c off => if n == 3 then (match st with | b :: a :: st => k_brn c S a b pc off L st | _ => none) else none
  | .ifCond c off => if n == 3 then (match st with | a :: st => k_brn c (k_new S (0, 0, 0)) a S.1 pc off L st | _ => none) else none
  | .ifnull off => if n == 3 && k_tok pc off then (match st with
      | a :: st => if (k_ty S a).1 == 2 then some [(S, pc + 3, L, st)] else if (k_ty S a).1 == 3 then some [(S, k_tgt pc off, L, st), (k_fact S a (2, (k_ty S a).2.1, 0), pc + 3, L, st)] else none
      | _ => none) else none
  | .ifnonnull off => if n == 3 && k_tok pc off then (match st with
      | a :: st => if (k_ty S a).1 == 2 then some [(S, k_tgt pc off, L, st)] else if (k_ty S a).1 == 3 then some [(k_fact S a (2, (k_ty S a).2.1, 0), k_tgt pc off, L, st), (S, pc + 3, L, st)] else none
      | _ => none) else none
  | .aconst_null => if n == 1 then k_push S (3, 6, 0) (pc + 1) L st else none
  | .getfield ix => if n == 3 then k_get Lb own S pc ix L st else none
  | .putfield ix => if n == 3 then k_put Lb W own S pc ix L st else none
  | .iaload => if n == 1 then k_ald Lb [0] S pc L st else none
  | .baload => if n == 1 then k_ald Lb [1, 2] S pc L st else none
  | .aaload => if n == 1 then k_aald Lb S pc L st else none
  | .iastore => if n == 1 then k_ast Lb W 0 k_top S pc L st else none
  | .bastore => if n == 1 then k_ast Lb W 1 (0, 0, 1) S pc L st else none
  | .arraylength => if n == 1 then k_alen Lb S pc L st else none
  | .tableswitch dflt lo hi offs => if decide (hi + 1 = lo + (offs.size : Int)) then k_sw S pc dflt (k_tab lo 0 offs.toList) L st else none
  | .lookupswitch dflt ps => if (ps.toList.zip (ps.toList.drop 1)).all (fun (a, next) => a.1 < next.1) then k_sw S pc dflt ps.toList L st else none
  | _ => none
