/-! the checker's run -/
def k_pe (mi : Nat) : ch_M × List (Nat × Instr × Nat) × Nat := pg.getD mi (mX0_init, [], 0)
def k_pM (mi : Nat) : ch_M := (k_pe mi).1
theorem k_pe_in {mi : Nat} {q : Nat × Instr × Nat} (hq : q ∈ (k_pe mi).2.1) : decode (k_pM mi).2.1 q.1 = .ok q.2 ∧ pg_R (k_pe mi).2.2 = (k_pM mi).1.cls := by
  unfold k_pM k_pe at *
  rw [List.getD_eq_getElem?_getD] at *
  cases hm : pg[mi]? with
  | none => rw [hm] at hq; exact absurd hq List.not_mem_nil
  | some e =>
    rw [hm] at hq
    have he : e ∈ pg := List.mem_of_getElem? hm
    exact ⟨(pg_d e he).1 q hq, (pg_d e he).2⟩
def k_rw (S : k_S) : List Nat → Nat
  | [] => 0
  | v :: st => (if k_one (k_ty S v) then 1 else 2) + k_rw S st
def k_ln : Nat → List Nat → List (Nat × Nat)
  | _, [] => []
  | n, v :: l => (n, v) :: k_ln (n + 1) l
def k_rcv (Lb : Nat → k_I) (S : k_S) (args : List Nat) (o : Nat) : Bool := match args with
  | a :: _ => (k_ty S a).1 == 2 && (Lb (k_ty S a).2.1.toNat).1 == 0 && (Lb (k_ty S a).2.1.toNat).2.1 == pg_ci o && decide (pg_ci o < 11)
  | [] => false
def k_subs (S : k_S) : List Nat → List k_T → Bool
  | [], [] => true
  | v :: vl, t :: tl => k_sub (k_ty S v) t && k_subs S vl tl
  | _, _ => false
def k_kno (S : k_S) (args : List Nat) (q : Nat × Nat × k_T) : Bool := match args[q.1]? with
  | some a => match k_fk S a q.2.1 with
    | some w => k_sub (k_ty S w) q.2.2
    | none => false
  | none => false
/-- contract c serves this call -/
def k_cm (W : List (Nat × Nat)) (S : k_S) (args : List Nat) (mi mx fr lo : Nat) (c : k_C) : Bool := c.1 == mi && k_subs S args c.2.1 && c.2.2.1.all (k_kno S args) && c.2.2.2.2.1.all (fun q => decide (q ∈ W)) && decide (c.2.2.2.2.2.1 + 1 ≤ fr) && decide (8 + (mx + 11) + c.2.2.2.2.2.2 ≤ lo)
def k_left (S : k_S) (W' : List (Nat × Nat)) : List (Nat × Nat × Nat) := S.2.2.2.2.2.filter (fun u => (k_ty S u.1).1 == 2 && !decide (((k_ty S u.1).2.1.toNat, u.2.1) ∈ W'))
def k_aft (go : k_S → k_Fr → List k_Fr → Bool) (S : k_S) (f : k_Fr) (fs : List k_Fr) (rest : List Nat) (c : k_C) : Bool := match c.2.2.2.1 with
  | some t => go (k_new (k_kn S (k_left S c.2.2.2.2.1)) t) (f.1, f.2.1 + 3, f.2.2.1, S.1 :: rest, f.2.2.2.2) fs
  | none => go (k_kn S (k_left S c.2.2.2.2.1)) (f.1, f.2.1 + 3, f.2.2.1, rest, f.2.2.2.2) fs
def k_inv (go : k_S → k_Fr → List k_Fr → Bool) (Lb : Nat → k_I) (cs : List k_C) (inl : List Nat) (W : List (Nat × Nat)) (S : k_S) (f : k_Fr) (fs : List k_Fr) (virt : Bool) (mi : Nat) (args rest : List Nat) : Bool :=
  decide (k_rw S args ≤ (k_pM mi).2.2.1) && decide (k_rw S rest ≤ 8) && decide (args.length = pg_na.getD mi 0 + (if virt then 1 else 0)) && (!virt || k_rcv Lb S args (k_pe mi).2.2) &&
  (if decide (mi ∈ inl) then args.all (fun v => k_one (k_ty S v)) && decide (1 ≤ f.2.2.2.2.1) && decide (19 + (k_pM mi).2.2.1 ≤ f.2.2.2.2.2) && go S (mi, 0, k_ln 0 args, [], f.2.2.2.2.1 - 1, f.2.2.2.2.2 - (19 + (k_pM mi).2.2.1)) ((f.1, f.2.1 + 3, f.2.2.1, rest, f.2.2.2.2) :: fs)
   else match cs.find? (k_cm W S args mi (k_pM mi).2.2.1 f.2.2.2.2.1 f.2.2.2.2.2) with
    | some c => k_aft go S f fs rest c
    | none => false)
def k_abs (S : k_S) (a : Nat) : k_S := if -2147483648 < k_lo S a then k_new S (0, 0, max (-k_lo S a) (k_hi S a)) else k_new S k_top
def k_copy (Lb : Nat → k_I) (W : List (Nat × Nat)) (S : k_S) (n dp a sp a0 : Nat) : Bool :=
  k_isI S n && k_isI S dp && k_isI S sp && decide (0 ≤ k_lo S sp) && decide (k_hi S sp = 0) && decide (0 ≤ k_lo S dp) && decide (k_hi S dp = 0) && decide (0 ≤ k_lo S n) && (k_ty S a).1 == 2 && (k_ty S a0).1 == 2 &&
  (Lb (k_ty S a).2.1.toNat).1 == 1 && (Lb (k_ty S a0).2.1.toNat).1 == 1 && (Lb (k_ty S a).2.1.toNat).2.1 == 0 && (Lb (k_ty S a0).2.1.toNat).2.1 == 0 && decide ((Lb (k_ty S a).2.1.toNat).2.2.2.length = 1) && decide ((Lb (k_ty S a0).2.1.toNat).2.2.2.length = 1) &&
  decide (k_hi S n ≤ (Lb (k_ty S a).2.1.toNat).2.2.1) && decide (k_hi S n ≤ (Lb (k_ty S a0).2.1.toNat).2.2.1) && decide ((k_el (Lb (k_ty S a).2.1.toNat) 0).2.1 ≤ (k_el (Lb (k_ty S a0).2.1.toNat) 0).2.1) && decide ((k_el (Lb (k_ty S a0).2.1.toNat) 0).2.2 ≤ (k_el (Lb (k_ty S a).2.1.toNat) 0).2.2) && decide (((k_ty S a).2.1.toNat, 0) ∈ W)
/-- the library's own: 10 max, 11 min, 12 abs, 13 arraycopy -/
def k_lib (go : k_S → k_Fr → List k_Fr → Bool) (Lb : Nat → k_I) (W : List (Nat × Nat)) (S : k_S) (f : k_Fr) (fs : List k_Fr) (k : Nat) : Bool := match k, f.2.2.2.1 with
  | 10, b :: a :: st => k_isI S a && k_isI S b && decide (1 ≤ f.2.2.2.2.1) && decide (k_rw S st + 13 ≤ f.2.2.2.2.2) && go (k_max S a b) (f.1, f.2.1 + 3, f.2.2.1, S.1 :: st, f.2.2.2.2) fs
  | 11, b :: a :: st => k_isI S a && k_isI S b && decide (1 ≤ f.2.2.2.2.1) && decide (k_rw S st + 13 ≤ f.2.2.2.2.2) && go (k_min S a b) (f.1, f.2.1 + 3, f.2.2.1, S.1 :: st, f.2.2.2.2) fs
  | 12, a :: st => k_isI S a && decide (1 ≤ f.2.2.2.2.1) && decide (k_rw S st + 13 ≤ f.2.2.2.2.2) && go (k_abs S a) (f.1, f.2.1 + 3, f.2.2.1, S.1 :: st, f.2.2.2.2) fs
  | 13, n :: dp :: a :: sp :: a0 :: st => k_copy Lb W S n dp a sp a0 && decide (1 ≤ f.2.2.2.2.1) && decide (k_rw S st + 100 ≤ f.2.2.2.2.2) && go S (f.1, f.2.1 + 3, f.2.2.1, st, f.2.2.2.2) fs
  | _, _ => false
def k_retX (go : k_S → k_Fr → List k_Fr → Bool) (ret : Option k_T) (S : k_S) (v : Nat) (fs : List k_Fr) : Bool := match fs with
  | [] => (match ret with | some t => k_sub (k_ty S v) t | none => false)
  | f :: fs => go S (f.1, f.2.1, f.2.2.1, v :: f.2.2.2.1, f.2.2.2.2) fs
def k_kind (i : Instr) : Nat := match i with
  | .ireturn => 1
  | .areturn => 2
  | .return_ => 3
  | .invokevirtual _ => 4
  | .invokestatic _ => 5
  | _ => 0
def k_ix (i : Instr) : Nat := match i with
  | .invokevirtual ix => ix
  | .invokestatic ix => ix
  | _ => 0
def k_retI (go : k_S → k_Fr → List k_Fr → Bool) (ret : Option k_T) (S : k_S) (f : k_Fr) (fs : List k_Fr) : Bool := match f.2.2.2.1 with
  | [v] => k_isI S v && (decide ((k_pM f.1).2.2.2 = some .int) || (decide ((k_pM f.1).2.2.2 = some .boolean) && decide (0 ≤ k_lo S v) && decide (k_hi S v ≤ 1))) && k_retX go ret S v fs
  | _ => false
def k_retA (go : k_S → k_Fr → List k_Fr → Bool) (ret : Option k_T) (S : k_S) (f : k_Fr) (fs : List k_Fr) : Bool := match f.2.2.2.1 with
  | [v] => ((k_ty S v).1 == 2 || (k_ty S v).1 == 3) && (match (k_pM f.1).2.2.2 with | some (.object _) => true | some (.array _) => true | _ => false) && k_retX go ret S v fs
  | _ => false
def k_retV (go : k_S → k_Fr → List k_Fr → Bool) (ret : Option k_T) (S : k_S) (f : k_Fr) (fs : List k_Fr) : Bool := match f.2.2.2.1 with
  | [] => decide ((k_pM f.1).2.2.2 = none) && (match fs with | [] => ret.isNone | g :: gs => go S g gs)
  | _ => false
def k_call (go : k_S → k_Fr → List k_Fr → Bool) (Lb : Nat → k_I) (cs : List k_C) (inl : List Nat) (W : List (Nat × Nat)) (S : k_S) (f : k_Fr) (fs : List k_Fr) (virt : Bool) (q : Nat × Nat) : Bool :=
  if q.1 == (if virt then 0 else 1) then k_inv go Lb cs inl W S f fs virt q.2 (f.2.2.2.1.take (pg_na.getD q.2 0 + (if virt then 1 else 0))).reverse (f.2.2.2.1.drop (pg_na.getD q.2 0 + (if virt then 1 else 0)))
  else !virt && k_lib go Lb W S f fs q.1
def k_body (go : k_S → k_Fr → List k_Fr → Bool) (Lb : Nat → k_I) (cs : List k_C) (inl : List Nat) (W : List (Nat × Nat)) (ret : Option k_T) (S : k_S) (f : k_Fr) (fs : List k_Fr) (i : Instr) (n : Nat) : Bool := match k_kind i with
  | 0 => (match k_step Lb W (k_pe f.1).2.2 (k_pM f.1).2.2.1 S f.2.1 f.2.2.1 f.2.2.2.1 i n with | some ss => ss.all (fun s => go s.1 (f.1, s.2.1, s.2.2.1, s.2.2.2, f.2.2.2.2) fs) | none => false)
  | 1 => n == 1 && k_retI go ret S f fs
  | 2 => n == 1 && k_retA go ret S f fs
  | 3 => n == 1 && k_retV go ret S f fs
  | 4 => n == 3 && (match k_fd (pg_ml (k_pe f.1).2.2) (k_ix i) with | some q => k_call go Lb cs inl W S f fs true q | none => false)
  | _ => n == 3 && (match k_fd (pg_ml (k_pe f.1).2.2) (k_ix i) with | some q => k_call go Lb cs inl W S f fs false q | none => false)
/-- a jump to a point: what it asks for stands, and the measure falls -/
def k_join (mi fr lo : Nat) (m0 : List (Int × Nat) × Int) (S : k_S) (f : k_Fr) (P : k_Pt) : Bool :=
  f.1 == mi && f.2.2.2.2.1 == fr && f.2.2.2.2.2 == lo && f.2.2.2.1.isEmpty && P.2.2.2.1.all (fun q => decide (q.2 < P.2.1.length)) &&
  (match k_selL S f.2.2.1 P.2.1 with
    | some vl => (match k_selK S vl P.2.2.1 with
      | some wl => (match k_low S (P.2.2.2.1.map (fun q => (q.1, (vl ++ wl).getD q.2 0))) P.2.2.2.2, k_low S (m0.1 ++ (P.2.2.2.1.map (fun q => (q.1, (vl ++ wl).getD q.2 0))).map (fun q => (-q.1, q.2))) (m0.2 - P.2.2.2.2) with
        | some a, some b => decide (0 ≤ a) && decide (1 ≤ b)
        | _, _ => false)
      | none => false)
    | none => false)
def k_chk (Lb : Nat → k_I) (cs : List k_C) (inl : List Nat) (W : List (Nat × Nat)) (ret : Option k_T) (mi fr lo : Nat) (pts : List k_Pt) (m0 : List (Int × Nat) × Int) : Nat → Bool → k_S → k_Fr → List k_Fr → Bool
  | 0, _, _, _, _ => false
  | n + 1, b, S, f, fs => (b && fs.isEmpty && pts.any (fun P => P.1 == f.2.1 && k_join mi fr lo m0 S f P)) || (match (k_pe f.1).2.1.find? (fun q => q.1 == f.2.1) with
      | some q => k_body (k_chk Lb cs inl W ret mi fr lo pts m0 n true) Lb cs inl W ret S f fs q.2.1 q.2.2
      | none => false)
def k_as : Nat → List k_T → List (Nat × k_T)
  | _, [] => []
  | n, t :: l => (n, t) :: k_as (n + 1) l
/-- a contract is kept: from its entry and from each point -/
def k_keeps (Lb : Nat → k_I) (cs : List k_C) (inl : List Nat) (fuel : Nat) (c : k_C) (pts : List k_Pt) : Bool :=
  c.2.1.all k_one && k_chk Lb cs inl c.2.2.2.2.1 c.2.2.2.1 c.1 c.2.2.2.2.2.1 c.2.2.2.2.2.2 pts ([], 1000000000000000) fuel false (k_init (k_as 0 c.2.1) c.2.2.1) (c.1, 0, k_lnum 0 (k_as 0 c.2.1), [], c.2.2.2.2.2) [] &&
  pts.all (fun P => P.2.2.2.1.all (fun q => decide (q.2 < P.2.1.length)) && k_chk Lb cs inl c.2.2.2.2.1 c.2.2.2.1 c.1 c.2.2.2.2.2.1 c.2.2.2.2.2.2 pts P.2.2.2 fuel false (k_init P.2.1 P.2.2.1) (c.1, P.1, k_lnum 0 P.2.1, [], c.2.2.2.2.2) [])
