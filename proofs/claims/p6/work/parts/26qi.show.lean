/-! what a TOWN shows, by the reference's places: K numbers, V draws, ρ rows of ROPES, RU what RULES are worth -/
abbrev zP : Type := zI × (Nat → Int64) × aRw × (Nat → (Nat → Int) → Int)
abbrev isPl (n ga : Nat) (k : Int) : Prop := 0 ≤ k ∧ k < 2 * (n : Int) ∨ 12 ≤ k ∧ k < 12 + (ga : Int)
def tk9 (n ga pe : Nat) (ρ : aRw) (T : Nat → Int32) : Prop := m_ok n ρ T ∧ e_ok n ρ T ∧ (∀ q, q < n → 0 ≤ (T (12 + q)).toInt ∧ (T (12 + q)).toInt ≤ 1) ∧ (∀ k, k < 12 → 0 ≤ (T (18 + k)).toInt ∧ (T (18 + k)).toInt ≤ 99) ∧ ∀ i, i < pe → isPl n ga (T (30 + i)).toInt
def BSK (K : zI) (a b : Nat) : Bool := decide ((K 65 (18 * a + b)).toInt = 1)
def GK (K : zI) (g : Nat) : Int32 := K 59 (12 + g)
/-- the numbers keep to their bounds -/
def kok (τ : aN) (φ : zP) : Prop := wfR τ.1 φ.2.2.1 ∧ tk9 τ.1 τ.2.1 τ.2.2.1 φ.2.2.1 (φ.1 56) ∧ (∀ i, i < 8 → 0 ≤ (φ.1 62 i).toInt ∧ (φ.1 62 i).toInt ≤ 9) ∧ (τ.2.1 ≤ 6 ∧ τ.2.2.1 ≤ 8 ∧ τ.2.2.2 ≤ 6) ∧ (∀ a, a < 18 → BSK φ.1 a a = false) ∧ ((φ.1 50 39).toInt = 0 ∨ (φ.1 50 39).toInt = 1 ∧ 0 ≤ (φ.1 50 35).toInt ∧ (φ.1 50 35).toInt ≤ (τ.2.2.1 : Int) ∧ tk9 τ.1 τ.2.1 (φ.1 50 35).toInt.toNat φ.2.2.1 (φ.1 58)) ∧ (∀ i, i < τ.2.2.2 → (0 ≤ (φ.1 63 i).toInt ∧ (φ.1 63 i).toInt < (τ.2.2.1 : Int)) ∧ isPl τ.1 τ.2.1 (φ.1 64 i).toInt) ∧ ∀ r, r < 12 → (-1 ≤ (φ.1 60 r).toInt ∧ (φ.1 60 r).toInt ≤ 200) ∧ -1 ≤ (φ.1 61 r).toInt ∧ (φ.1 61 r).toInt ≤ 200
/-- a state of the class shows T and draws d -/
def sx (I : zI) (W : zW) (j n pe : Nat) (T : Nat → Int32) (d : Int64) : Prop := (∀ q, q < n → I (100 + 6 * j + 1) q = T q ∧ I (100 + 6 * j + 2) q = T (6 + q) ∧ I (100 + 6 * j + 3) q = T (12 + q)) ∧ (∀ q, q < 12 → I (100 + 6 * j + 4) q = T (18 + q)) ∧ (∀ i, i < pe → I (100 + 6 * j + 5) i = T (30 + i)) ∧ I (100 + 6 * j) 5 = T 38 ∧ W (100 + 6 * j) 6 = d ∧ ∀ q, q < 6 → 0 ≤ (I (100 + 6 * j + 3) q).toInt ∧ (I (100 + 6 * j + 3) q).toInt ≤ 1
theorem sx.mv {I I1 : zI} {W W1 : zW} {j n pe : Nat} {T : Nat → Int32} {d : Int64} (H : sx I W j n pe T d) (o : ∀ L, 100 + 6 * j ≤ L → L < 100 + 6 * j + 6 → I1 L = I L) (ow : W1 (100 + 6 * j) 6 = W (100 + 6 * j) 6) : sx I1 W1 j n pe T d := by
  obtain ⟨h1, h2, h3, h4, h5, h6⟩ := H
  refine ⟨fun q hq => ?_, fun q hq => ?_, fun i hi => ?_, ?_, ow.trans h5, fun q hq => ?_⟩
  · rw [o _ (by omega) (by omega), o _ (by omega) (by omega), o _ (by omega) (by omega)]
    exact h1 q hq
  · rw [o _ (by omega) (by omega)]
    exact h2 q hq
  · rw [o _ (by omega) (by omega)]
    exact h3 i hi
  · rw [o _ (by omega) (by omega)]
    exact h4
  · rw [o _ (by omega) (by omega)]
    exact h6 q hq
/-- the class's store shows a TOWN -/
def cS (τ : aN) (φ : zP) (I : zI) (W : zW) : Prop := pz I τ.1 φ.2.2.1 ∧ ((I 3 0).toInt = (τ.2.1 : Int) ∧ (I 3 3).toInt = (τ.2.2.1 : Int) ∧ (I 3 5).toInt = (τ.2.2.2 : Int)) ∧ sx I W 0 τ.1 τ.2.2.1 (φ.1 56) (φ.2.1 36) ∧ (∀ g, g < τ.2.1 → I 20 g = GK φ.1 g) ∧ (∀ a b, a < 18 → b < 18 → bt9 (I 21 a) b = BSK φ.1 a b) ∧ (∀ i, i < τ.2.2.1 → I 22 i = φ.1 62 i) ∧ (∀ i, i < τ.2.2.2 → I 23 i = φ.1 63 i ∧ I 24 i = φ.1 64 i) ∧ (∀ r, r < 12 → I 5 r = φ.1 60 r ∧ I 6 r = φ.1 61 r) ∧ (I 0 6).toInt = (φ.1 50 39).toInt ∧ ((φ.1 50 39).toInt = 1 → (I 0 7).toInt = (φ.1 50 35).toInt ∧ sx I W 2 τ.1 (φ.1 50 35).toInt.toNat (φ.1 58) (φ.2.1 38)) ∧ I 0 14 = φ.1 50 7
/-- labels that show nothing -/
def scr (L : Nat) : Prop := L = 1 ∨ L = 4 ∨ 7 ≤ L ∧ L ≤ 10 ∨ L = 19 ∨ 25 ≤ L ∧ L < 50 ∨ 106 ≤ L ∧ L < 112 ∨ 118 ≤ L
theorem cS.mv {τ : aN} {φ : zP} {I I1 : zI} {W W1 : zW} (H : cS τ φ I W) (o : ∀ L, ¬ scr L → I1 L = I L) (ow : ∀ L, L = 100 ∨ L = 112 → W1 L = W L) : cS τ φ I1 W1 := by
  obtain ⟨h1, h2, h3, h4, h5, h6, h7, h8, h9, h10, h11⟩ := H
  unfold scr at o
  refine ⟨h1.mv (fun L hL => o L (by omega)), ?_, h3.mv (fun L a b => o L (by omega)) (by rw [ow 100 (Or.inl rfl)]), fun g hg => ?_, fun a b ha hb => ?_, fun i hi => ?_, fun i hi => ?_, fun r hr => ?_, ?_, fun z => ?_, ?_⟩
  · rw [o 3 (by omega)]
    exact h2
  · rw [o 20 (by omega)]
    exact h4 g hg
  · rw [o 21 (by omega)]
    exact h5 a b ha hb
  · rw [o 22 (by omega)]
    exact h6 i hi
  · rw [o 23 (by omega), o 24 (by omega)]
    exact h7 i hi
  · rw [o 5 (by omega), o 6 (by omega)]
    exact h8 r hr
  · rw [o 0 (by omega)]
    exact h9
  · rw [o 0 (by omega)]
    exact ⟨(h10 z).1, (h10 z).2.mv (fun L a b => o L (by omega)) (by rw [ow 112 (Or.inr rfl)])⟩
  · rw [o 0 (by omega)]
    exact h11
/-- the reference's town shows T and draws d -/
def tx (I : zI) (L n pe : Nat) (T : Nat → Int32) : Prop := (∀ q, q < n → I L q = T q ∧ I L (6 + q) = T (6 + q) ∧ I L (12 + q) = T (12 + q)) ∧ (∀ q, q < 12 → I L (18 + q) = T (18 + q)) ∧ (∀ i, i < pe → I L (30 + i) = T (30 + i)) ∧ I L 38 = T 38
/-- the reference's store shows a TOWN -/
def rS (τ : aN) (φ : zP) (I : zI) (W : zW) : Prop := qz I τ.1 φ.2.2.1 ∧ ((I 50 32).toInt = (τ.2.1 : Int) ∧ (I 50 33).toInt = (τ.2.2.1 : Int) ∧ (I 50 34).toInt = (τ.2.2.2 : Int)) ∧ (tx I 56 τ.1 τ.2.2.1 (φ.1 56) ∧ W 50 36 = φ.2.1 36) ∧ (∀ g, g < τ.2.1 → I 59 (12 + g) = GK φ.1 g) ∧ (∀ a b, a < 18 → b < 18 → I 65 (18 * a + b) = φ.1 65 (18 * a + b) ∧ 0 ≤ (φ.1 65 (18 * a + b)).toInt ∧ (φ.1 65 (18 * a + b)).toInt ≤ 1) ∧ (∀ i, i < τ.2.2.1 → I 62 i = φ.1 62 i) ∧ (∀ i, i < τ.2.2.2 → I 63 i = φ.1 63 i ∧ I 64 i = φ.1 64 i) ∧ (∀ r, r < 12 → I 60 r = φ.1 60 r ∧ I 61 r = φ.1 61 r) ∧ (I 50 39).toInt = (φ.1 50 39).toInt ∧ ((φ.1 50 39).toInt = 1 → (I 50 35).toInt = (φ.1 50 35).toInt ∧ tx I 58 τ.1 (φ.1 50 35).toInt.toNat (φ.1 58) ∧ W 50 38 = φ.2.1 38) ∧ I 50 7 = φ.1 50 7
/-- what rooms bear in it -/
def kb (τ : aN) (φ : zP) : Nat → Int := bb τ.1 τ.2.2.1 φ.2.2.1 (φ.1 56) (φ.1 62)
theorem kok.bo {τ : aN} {φ : zP} (H : kok τ φ) : bo (Rn τ.1 φ.2.2.1) (φ.1 56) (φ.1 62) τ.2.2.1 τ.1 := bo_of H.1 H.2.1.2.2.2.1 H.2.2.1 H.2.2.2.1.2.1
abbrev k56 (φ : zP) (T : Nat → Int32) : zP := (s2 φ.1 56 T, φ.2)
/-! what the calls do to it -/
def k9_brake (p o : Int32) (τ : aN) (φ : zP) : zP := if 0 ≤ p.toInt ∧ p.toInt < (τ.1 : Int) then k56 φ (upd (φ.1 56) (12 + p.toInt.toNat) o) else φ
def k9_water (r v : Int32) (τ : aN) (φ : zP) : zP := if (0 ≤ r.toInt ∧ r.toInt < 2 * (τ.1 : Int)) ∧ 0 ≤ v.toInt ∧ v.toInt ≤ 99 then k56 φ (upd (φ.1 56) (18 + r.toInt.toNat) v) else φ
def k9_trn (p : Nat) (k : Int) (φ : zP) : Int := max 0 (min (φ.2.2.1 p 1) ((φ.1 56 p).toInt + k))
def k9_turn (p k : Int32) (τ : aN) (φ : zP) : zP := if (0 ≤ p.toInt ∧ p.toInt < (τ.1 : Int)) ∧ φ.2.2.1 p.toInt.toNat 0 = 2 ∧ -20 ≤ k.toInt ∧ k.toInt ≤ 20 then k56 φ (upd (φ.1 56) p.toInt.toNat (Int32.ofInt (k9_trn p.toInt.toNat k.toInt φ))) else φ
def k9_g (τ : aN) (φ : zP) (k : Nat) : mS := m_g φ.2.2.1 (kb τ φ) true τ.1 (φ.1 56) (φ.2.1 36) k
def k9_minutes (k : Int32) (τ : aN) (φ : zP) : zP := if ¬ τ.1 = 0 ∧ 1 ≤ k.toInt ∧ k.toInt ≤ 60 then (s2 φ.1 56 (fun q => if q = 38 then φ.1 56 38 + k else (k9_g τ φ k.toInt.toNat).1 q), (fun q => if q = 36 then (k9_g τ φ k.toInt.toNat).2.1 else φ.2.1 q), φ.2.2) else φ
def k9_M (τ : aN) (φ : zP) : Int := r_M φ.2.2.1 (kb τ φ) (φ.1 56) τ.1
def k9_rt (τ : aN) (φ : zP) (q : Nat) : Int32 := if q < τ.1 then Int32.ofInt (r_x φ.2.2.1 (kb τ φ) q (φ.1 56 q).toInt (fr9 (φ.1 56) q)) else if 6 ≤ q ∧ q < 6 + τ.1 then φ.1 56 q + Int32.ofInt (r_s φ.2.2.1 (kb τ φ) (q - 6) (φ.1 56 (q - 6)).toInt (fr9 (φ.1 56) (q - 6))) else if q = 38 then φ.1 56 38 + Int32.ofInt (k9_M τ φ) else φ.1 56 q
def k9_rest (τ : aN) (φ : zP) : zP := if ¬ τ.1 = 0 then k56 φ (k9_rt τ φ) else φ
def k9_gallery (w : Int32) (τ : aN) (φ : zP) : zP := if 1 ≤ τ.1 ∧ 0 ≤ w.toInt ∧ w.toInt ≤ 60 ∧ τ.2.1 < 6 then (s2 φ.1 59 (upd (φ.1 59) (12 + τ.2.1) w), φ.2) else φ
def k9_beside (a b o : Int32) (τ : aN) (φ : zP) : zP := if isPl τ.1 τ.2.1 a.toInt ∧ isPl τ.1 τ.2.1 b.toInt ∧ ¬ a.toInt = b.toInt then (s2 φ.1 65 (upd (upd (φ.1 65) (18 * a.toInt.toNat + b.toInt.toNat) o) (18 * b.toInt.toNat + a.toInt.toNat) o), φ.2) else φ
def k9_person (w p : Int32) (τ : aN) (φ : zP) : zP := if 1 ≤ w.toInt ∧ w.toInt ≤ 9 ∧ isPl τ.1 τ.2.1 p.toInt ∧ τ.2.2.1 < 8 then (s2 (s2 φ.1 62 (upd (φ.1 62) τ.2.2.1 w)) 56 (upd (φ.1 56) (30 + τ.2.2.1) p), φ.2) else φ
def k9_meet (φ : zP) (a b : Nat) : Prop := BSK φ.1 a b = true ∧ hP9 φ.2.2.1 (φ.1 56) (GK φ.1) a = hP9 φ.2.2.1 (φ.1 56) (GK φ.1) b
def k9_can (p q : Int32) (τ : aN) (φ : zP) : Prop := (0 ≤ p.toInt ∧ p.toInt < (τ.2.2.1 : Int)) ∧ isPl τ.1 τ.2.1 q.toInt ∧ BSK φ.1 (φ.1 56 (30 + p.toInt.toNat)).toInt.toNat q.toInt.toNat = true ∧ hP9 φ.2.2.1 (φ.1 56) (GK φ.1) (φ.1 56 (30 + p.toInt.toNat)).toInt.toNat = hP9 φ.2.2.1 (φ.1 56) (GK φ.1) q.toInt.toNat
def k9_step (p q : Int32) (τ : aN) (φ : zP) : zP := if (0 ≤ p.toInt ∧ p.toInt < (τ.2.2.1 : Int)) ∧ isPl τ.1 τ.2.1 q.toInt ∧ BSK φ.1 (φ.1 56 (30 + p.toInt.toNat)).toInt.toNat q.toInt.toNat = true ∧ hP9 φ.2.2.1 (φ.1 56) (GK φ.1) (φ.1 56 (30 + p.toInt.toNat)).toInt.toNat = hP9 φ.2.2.1 (φ.1 56) (GK φ.1) q.toInt.toNat then k56 φ (upd (φ.1 56) (30 + p.toInt.toNat) q) else φ
def k9_want (r w : Int32) (τ : aN) (φ : zP) : zP := if (0 ≤ r.toInt ∧ r.toInt < 2 * (τ.1 : Int)) ∧ -1 ≤ w.toInt ∧ w.toInt ≤ 200 then (s2 φ.1 60 (upd (φ.1 60) r.toInt.toNat w), φ.2) else φ
def k9_woke (r w : Int32) (τ : aN) (φ : zP) : zP := if (0 ≤ r.toInt ∧ r.toInt < 2 * (τ.1 : Int)) ∧ -1 ≤ w.toInt ∧ w.toInt ≤ 200 then (s2 φ.1 61 (upd (φ.1 61) r.toInt.toNat w), φ.2) else φ
def k9_task (p q : Int32) (τ : aN) (φ : zP) : zP := if 0 ≤ p.toInt ∧ p.toInt < (τ.2.2.1 : Int) ∧ isPl τ.1 τ.2.1 q.toInt ∧ τ.2.2.2 < 6 then (s2 (s2 φ.1 63 (upd (φ.1 63) τ.2.2.2 p)) 64 (upd (φ.1 64) τ.2.2.2 q), φ.2) else φ
def k9_image (τ : aN) (φ : zP) : zP := if ¬ τ.1 = 0 then (s2 (s2 φ.1 58 (φ.1 56)) 50 (upd (upd (φ.1 50) 39 1) 35 (Int32.ofNat τ.2.2.1)), (fun q => if q = 38 then φ.2.1 36 else φ.2.1 q), φ.2.2) else φ
def k9_back (φ : zP) : zP := if (φ.1 50 39).toInt = 1 then (s2 φ.1 56 (fun q => if 30 + (φ.1 50 35).toInt.toNat ≤ q ∧ q ≤ 37 then φ.1 56 q else φ.1 58 q), (fun q => if q = 36 then φ.2.1 38 else φ.2.1 q), φ.2.2) else φ
/-- a new TOWN -/
def k9_new (n : Nat) (ρ : aRw) (seed : Int64) (φ : zP) : zP := (s2 (s2 (s2 (s2 (s2 φ.1 56 (fun q => if q < n then Int32.ofInt (ρ q 2) else if 12 ≤ q ∧ q < 12 + n then 1 else 0)) 60 (fun _ => -1)) 61 (fun _ => -1)) 65 (fun _ => 0)) 50 (upd (φ.1 50) 39 0), (fun q => if q = 36 then seed else φ.2.1 q), ρ, φ.2.2.2)
