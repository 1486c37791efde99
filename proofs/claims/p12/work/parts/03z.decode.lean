/-! instructions by their bytes: a quick way to what decode tells -/
noncomputable def dF : { F : Nat → Nat → Decoder Instr // ∀ pc : Nat, Decoder.instr pc = ((Reader.u1 : Decoder Nat) >>= F pc) } := ⟨_, fun pc => by
  unfold Decoder.instr
  exact rfl⟩
/-- a byte of the rest -/
def db0 (bs : List UInt8) (k : Nat) : Nat := match bs.drop k with | b :: _ => b.toNat | [] => 256
theorem db_u1 {code : ByteArray} {p k b : Nat} (h : db0 (code.data.toList.drop p) k = b) (hb : b < 256) : (Reader.u1 : Decoder Nat) code (p + k) = Except.ok (b, p + k + 1) := by
  unfold db0 at h
  rw [List.drop_drop] at h
  split at h
  · rename_i x xs hx
    have hlt : p + k < code.data.toList.length := by
      by_cases c : p + k < code.data.toList.length
      · exact c
      · rw [List.drop_eq_nil_of_le (by omega)] at hx
        cases hx
    have hx2 := List.drop_eq_getElem_cons hlt
    rw [hx] at hx2
    have e := (List.cons.inj hx2).1
    have hs : p + k < code.size := by
      rw [Array.length_toList] at hlt
      exact hlt
    have e2 : (code[p + k]'hs).toNat = b := by
      rw [← h, e]
      rfl
    show ((if h : p + k < code.size then (do set (p + k + 1); Pure.pure (code[p + k]'h).toNat : Decoder Nat) else throw (HasTruncated.truncated (p + k))) : Decoder Nat) code (p + k) = _
    rw [dif_pos hs]
    show Except.ok ((code[p + k]'hs).toNat, p + k + 1) = _
    rw [e2]
  · omega
theorem dec_F {code : ByteArray} {p b : Nat} (h : db0 (code.data.toList.drop p) 0 = b) (hb : b < 256) : decode code p = Except.bind (dF.1 p b code (p + 1)) (fun r => Except.ok (r.1, r.2 - p)) := by
  unfold decode Reader.runAt
  rw [dF.2]
  show Except.bind (Except.bind ((Reader.u1 : Decoder Nat) code (p + 0)) (fun q => dF.1 p q.1 code q.2)) (fun r => Except.ok (r.1, r.2 - p)) = _
  rw [db_u1 h hb]
  rfl
/-- those of one byte -/
def do0 (i : Instr) : Nat := match i with
  | .aload_n k => 42 + k.val
  | .iload_n k => 26 + k.val
  | .istore_n k => 59 + k.val
  | .ireturn => 172
  | .return_ => 177
  | .iadd => 96
  | .isub => 100
  | .imul => 104
  | .iaload => 46
  | .iastore => 79
  | .pop => 87
  | .dup => 89
  | .iand => 126
  | .ior => 128
  | .ishr => 122
  | .ishl => 120
  | .i2l => 133
  | .land => 127
  | .lor => 129
  | .lshl => 121
  | .iconst v => if -1 ≤ v ∧ v ≤ 5 then (v + 3).toNat else 256
  | _ => 256
theorem do0_ok {i : Instr} {pc : Nat} (h : do0 i < 256) : dF.1 pc (do0 i) = (Pure.pure i : Decoder Instr) := by
  cases i <;> first
    | exact absurd h (Nat.lt_irrefl 256)
    | rfl
    | skip
  · rename_i k
    match k with
    | 0 => rfl
    | 1 => rfl
    | 2 => rfl
    | 3 => rfl
  · rename_i v
    by_cases c : -1 ≤ v ∧ v ≤ 5
    · rcases (show v = -1 ∨ v = 0 ∨ v = 1 ∨ v = 2 ∨ v = 3 ∨ v = 4 ∨ v = 5 by omega) with e | e | e | e | e | e | e <;> subst e <;> rfl
    · have e : do0 (.iconst v) = 256 := if_neg c
      omega
  · rename_i k
    match k with
    | 0 => rfl
    | 1 => rfl
    | 2 => rfl
    | 3 => rfl
  · rename_i k
    match k with
    | 0 => rfl
    | 1 => rfl
    | 2 => rfl
    | 3 => rfl
section
variable {code : ByteArray} {p op n ix : Nat} {off : Int}
def k0 (bs : List UInt8) (n : Nat) (i : Instr) : Bool := n == 1 && Nat.blt (do0 i) 256 && db0 bs 0 == do0 i
theorem k0_ok {i : Instr} (h : k0 (code.data.toList.drop p) n i = true) : decode code p = Except.ok (i, n) := by
  simp only [k0, Bool.and_eq_true, beq_iff_eq, Nat.blt_eq] at h
  obtain ⟨⟨rfl, h2⟩, h3⟩ := h
  rw [dec_F h3 h2, do0_ok h2]
  show Except.ok (i, p + 1 - p) = _
  rw [show p + 1 - p = 1 by omega]
def k1 (bs : List UInt8) (op n ix : Nat) : Bool := n == 2 && db0 bs 0 == op && Nat.blt (db0 bs 1) 256 && ix == db0 bs 1
theorem k1_ok {c : Nat → Instr} (hop : op < 256) (hF : ∀ pc, dF.1 pc op = (do let x ← (Reader.u1 : Decoder Nat); Pure.pure (c x))) (h : k1 (code.data.toList.drop p) op n ix = true) : decode code p = Except.ok (c ix, n) := by
  simp only [k1, Bool.and_eq_true, beq_iff_eq, Nat.blt_eq] at h
  obtain ⟨⟨⟨rfl, h2⟩, h3⟩, rfl⟩ := h
  rw [dec_F h2 hop, hF]
  show Except.bind (Except.bind ((Reader.u1 : Decoder Nat) code (p + 1)) _) _ = _
  rw [db_u1 rfl h3]
  show Except.ok (c _, p + 1 + 1 - p) = _
  rw [show p + 1 + 1 - p = 2 by omega]
def ks1 (bs : List UInt8) (op n : Nat) (off : Int) : Bool := n == 2 && db0 bs 0 == op && Nat.blt (db0 bs 1) 256 && decide (off = Reader.signed 8 (db0 bs 1))
theorem ks1_ok {c : Int → Instr} (hop : op < 256) (hF : ∀ pc, dF.1 pc op = (do let x ← (Reader.s1 : Decoder Int); Pure.pure (c x))) (h : ks1 (code.data.toList.drop p) op n off = true) : decode code p = Except.ok (c off, n) := by
  simp only [ks1, Bool.and_eq_true, beq_iff_eq, Nat.blt_eq, decide_eq_true_eq] at h
  obtain ⟨⟨⟨rfl, h2⟩, h3⟩, rfl⟩ := h
  rw [dec_F h2 hop, hF]
  show Except.bind (Except.bind (Except.map (fun q => (Reader.signed 8 q.1, q.2)) ((Reader.u1 : Decoder Nat) code (p + 1))) _) _ = _
  rw [db_u1 rfl h3]
  show Except.ok (c _, p + 1 + 1 - p) = _
  rw [show p + 1 + 1 - p = 2 by omega]
theorem u2_ok (h3 : db0 (code.data.toList.drop p) 1 < 256) (h4 : db0 (code.data.toList.drop p) 2 < 256) : (Reader.u2 : Decoder Nat) code (p + 1) = Except.ok (db0 (code.data.toList.drop p) 1 * 256 + db0 (code.data.toList.drop p) 2, p + 3) := by
  show Except.bind ((Reader.u1 : Decoder Nat) code (p + 1)) _ = _
  rw [db_u1 rfl h3]
  show Except.bind ((Reader.u1 : Decoder Nat) code (p + 2)) _ = _
  rw [db_u1 rfl h4]
  rfl
def k2 (bs : List UInt8) (op n ix : Nat) : Bool := n == 3 && db0 bs 0 == op && Nat.blt (db0 bs 1) 256 && Nat.blt (db0 bs 2) 256 && ix == db0 bs 1 * 256 + db0 bs 2
theorem k2_ok {c : Nat → Instr} (hop : op < 256) (hF : ∀ pc, dF.1 pc op = (do let x ← (Reader.u2 : Decoder Nat); Pure.pure (c x))) (h : k2 (code.data.toList.drop p) op n ix = true) : decode code p = Except.ok (c ix, n) := by
  simp only [k2, Bool.and_eq_true, beq_iff_eq, Nat.blt_eq] at h
  obtain ⟨⟨⟨⟨rfl, h2⟩, h3⟩, h4⟩, rfl⟩ := h
  rw [dec_F h2 hop, hF]
  show Except.bind (Except.bind ((Reader.u2 : Decoder Nat) code (p + 1)) _) _ = _
  rw [u2_ok h3 h4]
  show Except.ok (c _, p + 3 - p) = _
  rw [show p + 3 - p = 3 by omega]
def ks2 (bs : List UInt8) (op n : Nat) (off : Int) : Bool := n == 3 && db0 bs 0 == op && Nat.blt (db0 bs 1) 256 && Nat.blt (db0 bs 2) 256 && decide (off = Reader.signed 16 (db0 bs 1 * 256 + db0 bs 2))
theorem ks2_ok {c : Int → Instr} (hop : op < 256) (hF : ∀ pc, dF.1 pc op = (do let x ← (Reader.s2 : Decoder Int); Pure.pure (c x))) (h : ks2 (code.data.toList.drop p) op n off = true) : decode code p = Except.ok (c off, n) := by
  simp only [ks2, Bool.and_eq_true, beq_iff_eq, Nat.blt_eq, decide_eq_true_eq] at h
  obtain ⟨⟨⟨⟨rfl, h2⟩, h3⟩, h4⟩, rfl⟩ := h
  rw [dec_F h2 hop, hF]
  show Except.bind (Except.bind (Except.map (fun q => (Reader.signed 16 q.1, q.2)) ((Reader.u2 : Decoder Nat) code (p + 1))) _) _ = _
  rw [u2_ok h3 h4]
  show Except.ok (c _, p + 3 - p) = _
  rw [show p + 3 - p = 3 by omega]
def ki (bs : List UInt8) (n ix : Nat) (off : Int) : Bool := n == 3 && db0 bs 0 == 132 && Nat.blt (db0 bs 1) 256 && Nat.blt (db0 bs 2) 256 && ix == db0 bs 1 && decide (off = Reader.signed 8 (db0 bs 2))
theorem ki_ok (h : ki (code.data.toList.drop p) n ix off = true) : decode code p = Except.ok (.iinc ix off, n) := by
  simp only [ki, Bool.and_eq_true, beq_iff_eq, Nat.blt_eq, decide_eq_true_eq] at h
  obtain ⟨⟨⟨⟨⟨rfl, h2⟩, h3⟩, h4⟩, rfl⟩, rfl⟩ := h
  rw [dec_F h2 (by decide)]
  show Except.bind (Except.bind ((Reader.u1 : Decoder Nat) code (p + 1)) _) _ = _
  rw [db_u1 rfl h3]
  show Except.bind (Except.bind (Except.map (fun q => (Reader.signed 8 q.1, q.2)) ((Reader.u1 : Decoder Nat) code (p + 2))) _) _ = _
  rw [db_u1 rfl h4]
  show Except.ok (Instr.iinc _ _, p + 2 + 1 - p) = _
  rw [show p + 2 + 1 - p = 3 by omega]
end
/-- does the rest begin with the instruction i of n bytes -/
def f1 (code : ByteArray) (p : Nat) (bs : List UInt8) (i : Instr) (n : Nat) : Bool := match i with
  | .iload k => k1 bs 21 n k
  | .istore k => k1 bs 54 n k
  | .aload k => k1 bs 25 n k
  | .bipush v => ks1 bs 16 n v
  | .sipush v => ks2 bs 17 n v
  | .getfield k => k2 bs 180 n k
  | .putfield k => k2 bs 181 n k
  | .invokevirtual k => k2 bs 182 n k
  | .invokespecial k => k2 bs 183 n k
  | .invokestatic k => k2 bs 184 n k
  | .new k => k2 bs 187 n k
  | .ldc2_w k => k2 bs 20 n k
  | .goto v => ks2 bs 167 n v
  | .ifCond .eq v => ks2 bs 153 n v
  | .ifCond .ne v => ks2 bs 154 n v
  | .ifCond .lt v => ks2 bs 155 n v
  | .if_icmp .eq v => ks2 bs 159 n v
  | .if_icmp .ne v => ks2 bs 160 n v
  | .if_icmp .lt v => ks2 bs 161 n v
  | .if_icmp .ge v => ks2 bs 162 n v
  | .if_icmp .gt v => ks2 bs 163 n v
  | .if_icmp .le v => ks2 bs 164 n v
  | .iinc k v => ki bs n k v
  | i => if Nat.blt (do0 i) 256 then k0 bs n i else decide (decode code p = .ok (i, n))
theorem f1_ok {code : ByteArray} {p n : Nat} {i : Instr} (h : f1 code p (code.data.toList.drop p) i n = true) : decode code p = Except.ok (i, n) := by
  unfold f1 at h
  split at h
  · exact k1_ok (c := Instr.iload) (by decide) (fun _ => rfl) h
  · exact k1_ok (c := Instr.istore) (by decide) (fun _ => rfl) h
  · exact k1_ok (c := Instr.aload) (by decide) (fun _ => rfl) h
  · exact ks1_ok (c := Instr.bipush) (by decide) (fun _ => rfl) h
  · exact ks2_ok (c := Instr.sipush) (by decide) (fun _ => rfl) h
  · exact k2_ok (c := Instr.getfield) (by decide) (fun _ => rfl) h
  · exact k2_ok (c := Instr.putfield) (by decide) (fun _ => rfl) h
  · exact k2_ok (c := Instr.invokevirtual) (by decide) (fun _ => rfl) h
  · exact k2_ok (c := Instr.invokespecial) (by decide) (fun _ => rfl) h
  · exact k2_ok (c := Instr.invokestatic) (by decide) (fun _ => rfl) h
  · exact k2_ok (c := Instr.new) (by decide) (fun _ => rfl) h
  · exact k2_ok (c := Instr.ldc2_w) (by decide) (fun _ => rfl) h
  · exact ks2_ok (c := Instr.goto) (by decide) (fun _ => rfl) h
  · exact ks2_ok (c := (Instr.ifCond .eq)) (by decide) (fun _ => rfl) h
  · exact ks2_ok (c := (Instr.ifCond .ne)) (by decide) (fun _ => rfl) h
  · exact ks2_ok (c := (Instr.ifCond .lt)) (by decide) (fun _ => rfl) h
  · exact ks2_ok (c := (Instr.if_icmp .eq)) (by decide) (fun _ => rfl) h
  · exact ks2_ok (c := (Instr.if_icmp .ne)) (by decide) (fun _ => rfl) h
  · exact ks2_ok (c := (Instr.if_icmp .lt)) (by decide) (fun _ => rfl) h
  · exact ks2_ok (c := (Instr.if_icmp .ge)) (by decide) (fun _ => rfl) h
  · exact ks2_ok (c := (Instr.if_icmp .gt)) (by decide) (fun _ => rfl) h
  · exact ks2_ok (c := (Instr.if_icmp .le)) (by decide) (fun _ => rfl) h
  · exact ki_ok h
  · split at h
    · exact k0_ok h
    · exact of_decide_eq_true h
/-- do the bytes from p on hold these, one behind another -/
def fq (code : ByteArray) : Nat → List UInt8 → List (Nat × Instr × Nat) → Bool
  | _, _, [] => true
  | p, bs, q :: t => q.1 == p && f1 code q.1 bs q.2.1 q.2.2 && (match bs.drop q.2.2 with | [] => fq code (q.1 + q.2.2) [] t | b :: r => fq code (q.1 + q.2.2) (b :: r) t)
theorem fq_ok {code : ByteArray} : ∀ (t : List (Nat × Instr × Nat)) (p : Nat), fq code p (code.data.toList.drop p) t = true → ∀ q ∈ t, decode code q.1 = .ok q.2
  | [], _, _, q, hq => absurd hq List.not_mem_nil
  | a :: t, p, h, q, hq => by
    have h : (a.1 == p && f1 code a.1 (code.data.toList.drop p) a.2.1 a.2.2 && (match (code.data.toList.drop p).drop a.2.2 with | [] => fq code (a.1 + a.2.2) [] t | b :: r => fq code (a.1 + a.2.2) (b :: r) t)) = true := h
    have hm : ∀ l : List UInt8, (match l with | [] => fq code (a.1 + a.2.2) [] t | b :: r => fq code (a.1 + a.2.2) (b :: r) t) = fq code (a.1 + a.2.2) l t := fun l => by cases l <;> rfl
    rw [hm, List.drop_drop] at h
    simp only [Bool.and_eq_true, beq_iff_eq] at h
    obtain ⟨⟨h1, h2⟩, h3⟩ := h
    rcases List.mem_cons.mp hq with rfl | hq
    · rw [← h1] at h2
      exact f1_ok h2
    · rw [← h1] at h3
      exact fq_ok t (a.1 + a.2.2) h3 q hq
