/-! ===== basics: truth as an int, choices, counts, sums, sets of people; calls that change nothing ===== -/
noncomputable def kI {α : Type} (P : Prop) (a b : α) : α := @ite α P (Classical.propDecidable P) a b
theorem kI_t {α : Type} {P : Prop} {a b : α} (h : P) : kI P a b = a := by
  unfold kI
  exact if_pos h
theorem kI_f {α : Type} {P : Prop} {a b : α} (h : ¬P) : kI P a b = b := by
  unfold kI
  exact if_neg h
theorem kI_cg {α : Type} {P Q : Prop} {a b a' b' : α} (h : P ↔ Q) (ha : P → a = a') (hb : ¬P → b = b') : kI P a b = kI Q a' b' := by
  by_cases c : P
  · rw [kI_t c, kI_t (h.mp c)]; exact ha c
  · rw [kI_f c, kI_f (fun q => c (h.mpr q))]; exact hb c
noncomputable def kB (P : Prop) : Int := kI P 1 0
theorem kB_t {P : Prop} (h : P) : kB P = 1 := kI_t h
theorem kB_f {P : Prop} (h : ¬P) : kB P = 0 := kI_f h
theorem kB_z {P : Prop} : kB P = 0 ↔ ¬P := by
  by_cases c : P
  · rw [kB_t c]; exact ⟨fun h => absurd h (by decide), fun h => absurd c h⟩
  · rw [kB_f c]; exact ⟨fun _ => c, fun _ => rfl⟩
theorem kB_nz {P : Prop} : kB P ≠ 0 ↔ P := by
  by_cases c : P
  · rw [kB_t c]; exact ⟨fun _ => c, fun _ => by decide⟩
  · rw [kB_f c]; exact ⟨fun h => absurd rfl h, fun h => absurd h c⟩
theorem kB_pos {P : Prop} : 0 < kB P ↔ P := by
  by_cases c : P
  · rw [kB_t c]; exact ⟨fun _ => c, fun _ => by decide⟩
  · rw [kB_f c]; exact ⟨fun h => absurd h (by decide), fun h => absurd h c⟩
theorem kB_rng (P : Prop) : 0 ≤ kB P ∧ kB P ≤ 1 := by
  by_cases c : P
  · rw [kB_t c]; decide
  · rw [kB_f c]; decide
theorem kB_r (P : Prop) : -2147483648 ≤ kB P ∧ kB P < 2147483648 := by
  have := kB_rng P
  omega
theorem kB_cg {P Q : Prop} (h : P ↔ Q) : kB P = kB Q := kI_cg h (fun _ => rfl) (fun _ => rfl)
-- the first of n numbers that has P; -1: none
noncomputable def kls (P : Nat → Prop) : Nat → Int
  | 0 => -1
  | n + 1 => kI (0 ≤ kls P n) (kls P n) (kI (P n) (n : Int) (-1))
theorem kls_none {P : Nat → Prop} : ∀ {n : Nat}, (∀ i, i < n → ¬P i) → kls P n = -1
  | 0, _ => rfl
  | n + 1, h => by
    have ih := kls_none (n := n) (fun i hi => h i (by omega))
    rw [kls, ih, kI_f (by decide), kI_f (h n (by omega))]
theorem kls_at {P : Nat → Prop} : ∀ {n i : Nat}, i < n → P i → (∀ j, j < i → ¬P j) → kls P n = (i : Int)
  | 0, i, h, _, _ => absurd h (by omega)
  | n + 1, i, h, hp, hj => by
    by_cases c : i = n
    · subst c
      rw [kls, kls_none hj, kI_f (by decide), kI_t hp]
    · have ih := kls_at (n := n) (by omega) hp hj
      rw [kls, ih, kI_t (by omega)]
theorem kls_cg {P Q : Nat → Prop} {n : Nat} (h : ∀ i, i < n → (P i ↔ Q i)) : kls P n = kls Q n := by
  induction n with
  | zero => rfl
  | succ n ih =>
    rw [kls, kls, ih (fun i hi => h i (by omega))]
    exact kI_cg Iff.rfl (fun _ => rfl) (fun _ => kI_cg (h n (by omega)) (fun _ => rfl) (fun _ => rfl))
theorem kls_spec (P : Nat → Prop) (n : Nat) : (kls P n = -1 ∧ ∀ i, i < n → ¬P i) ∨ ∃ i : Nat, kls P n = (i : Int) ∧ i < n ∧ P i ∧ ∀ j, j < i → ¬P j := by
  induction n with
  | zero => exact Or.inl ⟨rfl, fun i hi => absurd hi (by omega)⟩
  | succ n ih =>
    rcases ih with ⟨h1, h2⟩ | ⟨i, h1, h2, h3, h4⟩
    · by_cases c : P n
      · exact Or.inr ⟨n, kls_at (by omega) c h2, by omega, c, h2⟩
      · refine Or.inl ⟨kls_none ?_, ?_⟩ <;>
        · intro i hi
          by_cases e : i = n
          · subst e; exact c
          · exact h2 i (by omega)
    · exact Or.inr ⟨i, kls_at (by omega) h3 h4, by omega, h3, h4⟩
theorem kls_r (P : Nat → Prop) (n : Nat) : -1 ≤ kls P n ∧ kls P n < (n : Int) ∨ kls P n = -1 := by
  rcases kls_spec P n with ⟨h1, -⟩ | ⟨i, h1, h2, -⟩
  · exact Or.inr h1
  · exact Or.inl (by omega)
-- sums
def ksm (f : Nat → Int) : Nat → Int
  | 0 => 0
  | n + 1 => ksm f n + f n
theorem ksm_cg {f f' : Nat → Int} {n : Nat} (h : ∀ i, i < n → f i = f' i) : ksm f n = ksm f' n := by
  induction n with
  | zero => rfl
  | succ n ih => rw [ksm, ksm, ih (fun i hi => h i (by omega)), h n (by omega)]
theorem ksm_rng {f : Nat → Int} {n : Nat} {lo hi : Int} (h : ∀ i, i < n → lo ≤ f i ∧ f i ≤ hi) : lo * n ≤ ksm f n ∧ ksm f n ≤ hi * n := by
  induction n with
  | zero => simp [ksm]
  | succ n ih =>
    have h1 := ih (fun i hi => h i (by omega))
    have h2 := h n (by omega)
    rw [ksm]
    have e1 : lo * ((n + 1 : Nat) : Int) = lo * n + lo := by rw [Int.natCast_succ, Int.mul_add, Int.mul_one]
    have e2 : hi * ((n + 1 : Nat) : Int) = hi * n + hi := by rw [Int.natCast_succ, Int.mul_add, Int.mul_one]
    omega
-- sets of people
noncomputable def kmk (P : Nat → Prop) : Nat → Nat
  | 0 => 0
  | n + 1 => kmk P n ||| kI (P n) (2 ^ n) 0
theorem kmk_bit (P : Nat → Prop) (n p : Nat) : (kmk P n).testBit p = true ↔ p < n ∧ P p := by
  induction n with
  | zero =>
    constructor
    · intro h; rw [kmk, Nat.zero_testBit] at h; cases h
    · intro h; omega
  | succ n ih =>
    rw [kmk, Nat.testBit_or, Bool.or_eq_true, ih]
    by_cases c : P n
    · rw [kI_t c, Nat.testBit_two_pow, decide_eq_true_eq]
      constructor
      · rintro (h | h)
        · exact ⟨by omega, h.2⟩
        · subst h; exact ⟨by omega, c⟩
      · rintro ⟨h1, h2⟩
        by_cases e : n = p
        · exact Or.inr e
        · exact Or.inl ⟨by omega, h2⟩
    · rw [kI_f c, Nat.zero_testBit]
      constructor
      · rintro (h | h)
        · exact ⟨by omega, h.2⟩
        · cases h
      · rintro ⟨h1, h2⟩
        by_cases e : p = n
        · subst e; exact absurd h2 c
        · exact Or.inl ⟨by omega, h2⟩
theorem kmk_lt (P : Nat → Prop) (n : Nat) : kmk P n < 2 ^ n := by
  refine Nat.lt_pow_two_of_testBit _ fun i hi => ?_
  cases c : (kmk P n).testBit i with
  | false => rfl
  | true => exact absurd ((kmk_bit P n i).mp c).1 (by omega)
theorem kset_eq {a b : Nat} (ha : a < 64) (hb : b < 64) (h : ∀ p, p < 6 → (a.testBit p = true ↔ b.testBit p = true)) : a = b := by
  refine Nat.eq_of_testBit_eq fun p => ?_
  by_cases c : p < 6
  · have := h p c
    cases e1 : a.testBit p <;> cases e2 : b.testBit p <;> simp_all
  · have h64 : (64 : Nat) ≤ 2 ^ p := by
      have : 2 ^ 6 ≤ 2 ^ p := Nat.pow_le_pow_right (by omega) (by omega)
      omega
    rw [Nat.testBit_lt_two_pow (by omega), Nat.testBit_lt_two_pow (by omega)]
theorem kmk_cg {P Q : Nat → Prop} {n : Nat} (h : ∀ i, i < n → (P i ↔ Q i)) : kmk P n = kmk Q n := by
  induction n with
  | zero => rfl
  | succ n ih => rw [kmk, kmk, ih (fun i hi => h i (by omega)), kI_cg (h n (by omega)) (fun _ => rfl) (fun _ => rfl)]
def kpo (a : Nat) : Nat → Int
  | 0 => 0
  | n + 1 => kpo a n + (if a.testBit n then 1 else 0)
theorem kpo_rng (a n : Nat) : 0 ≤ kpo a n ∧ kpo a n ≤ (n : Int) := by
  induction n with
  | zero => exact ⟨Int.le_refl _, Int.le_refl _⟩
  | succ n ih =>
    rw [kpo]
    split <;> omega
-- the machine's words on sets of people
def kan (a b : Nat) : Nat := a &&& b
theorem iI_and {a b : Nat} : iI (a : Int) &&& iI (b : Int) = iI ((kan a b : Nat) : Int) := by
  show _ = iI ((a &&& b : Nat) : Int)
  have e : ∀ x : Nat, iI (x : Int) = Int32.ofBitVec (BitVec.ofNat 32 x) := fun x => by
    rw [← Int32.toBitVec_inj]; unfold iI; rw [Int32.toBitVec_ofInt, Int32.toBitVec_ofBitVec, BitVec.ofInt_natCast]
  rw [e, e, e, ← Int32.toBitVec_inj, Int32.toBitVec_and, Int32.toBitVec_ofBitVec, Int32.toBitVec_ofBitVec, Int32.toBitVec_ofBitVec]
  exact (BitVec.ofNat_and).symm
theorem iI_or {a b : Nat} : iI (a : Int) ||| iI (b : Int) = iI ((a ||| b : Nat) : Int) := by
  have e : ∀ x : Nat, iI (x : Int) = Int32.ofBitVec (BitVec.ofNat 32 x) := fun x => by
    rw [← Int32.toBitVec_inj]; unfold iI; rw [Int32.toBitVec_ofInt, Int32.toBitVec_ofBitVec, BitVec.ofInt_natCast]
  rw [e, e, e, ← Int32.toBitVec_inj, Int32.toBitVec_or, Int32.toBitVec_ofBitVec, Int32.toBitVec_ofBitVec, Int32.toBitVec_ofBitVec]
  exact (BitVec.ofNat_or).symm
def kdf (a b : Nat) : Nat := a &&& (63 ^^^ b)
theorem iI_andn {a b : Nat} (ha : a < 64) (hb : b < 64) : iI (a : Int) &&& (iI (b : Int) ^^^ iI (-1)) = iI ((kdf a b : Nat) : Int) := by
  have h : ∀ b : Fin 64, ∀ a : Fin 64, iI ((a : Nat) : Int) &&& (iI ((b : Nat) : Int) ^^^ iI (-1)) = iI ((kdf a b : Nat) : Int) := by decide +kernel
  exact h ⟨b, hb⟩ ⟨a, ha⟩
theorem kdf_bit {a b p : Nat} (ha : a < 64) : (kdf a b).testBit p = true ↔ a.testBit p = true ∧ ¬ b.testBit p = true := by
  unfold kdf
  rw [Nat.testBit_and, Bool.and_eq_true, Nat.testBit_xor]
  by_cases c : p < 6
  · have h : ∀ p : Fin 6, (63 : Nat).testBit p = true := by decide
    have e : (63 : Nat).testBit p = true := h ⟨p, c⟩
    rw [e]
    cases b.testBit p <;> simp
  · have h64 : (64 : Nat) ≤ 2 ^ p := by
      have : 2 ^ 6 ≤ 2 ^ p := Nat.pow_le_pow_right (by omega) (by omega)
      omega
    rw [Nat.testBit_lt_two_pow (show a < 2 ^ p by omega)]
    simp
theorem kand_lt {a b : Nat} (ha : a < 64) : a &&& b < 64 := Nat.lt_of_le_of_lt Nat.and_le_left ha
theorem kor_lt {a b : Nat} (ha : a < 64) (hb : b < 64) : a ||| b < 64 := Nat.or_lt_two_pow (n := 6) ha hb
theorem kdf_lt {a b : Nat} (ha : a < 64) : kdf a b < 64 := kand_lt ha
theorem iI_sh1 {p : Nat} (hp : p < 6) : iI 1 <<< (iI (p : Int) &&& 31) = iI ((2 ^ p : Nat) : Int) := by
  have h : ∀ p : Fin 6, iI 1 <<< (iI ((p : Nat) : Int) &&& 31) = iI ((2 ^ (p : Nat) : Nat) : Int) := by decide +kernel
  exact h ⟨p, hp⟩
theorem iI_bit {a p : Nat} (ha : a < 64) (hp : p < 6) : (iI (a : Int) >>> (iI (p : Int) &&& 31)) &&& iI 1 = iI (if a.testBit p then 1 else 0) := by
  have h : ∀ a : Fin 64, ∀ p : Fin 6, (iI ((a : Nat) : Int) >>> (iI ((p : Nat) : Int) &&& 31)) &&& iI 1 = iI (if (a : Nat).testBit p then 1 else 0) := by decide +kernel
  exact h ⟨a, ha⟩ ⟨p, hp⟩
theorem k2p_lt {p : Nat} (hp : p < 6) : 2 ^ p < 64 := by
  have : 2 ^ p ≤ 2 ^ 5 := Nat.pow_le_pow_right (by omega) (by omega)
  omega
theorem kan_lt {a b : Nat} (ha : a < 64) : kan a b < 64 := kand_lt ha
theorem kand_ne {a b : Nat} (ha : a < 64) : ((kan a b : Nat) : Int) ≠ 0 ↔ ∃ p, p < 6 ∧ a.testBit p = true ∧ b.testBit p = true := by
  show ((a &&& b : Nat) : Int) ≠ 0 ↔ _
  constructor
  · intro h
    by_cases c : ∃ p, p < 6 ∧ a.testBit p = true ∧ b.testBit p = true
    · exact c
    · refine absurd ?_ h
      have : a &&& b = 0 := kset_eq (kand_lt ha) (by omega) fun p hp => by
        rw [Nat.testBit_and, Bool.and_eq_true, Nat.zero_testBit]
        exact ⟨fun q => absurd ⟨p, hp, q⟩ c, fun q => nomatch q⟩
      rw [this]; rfl
  · rintro ⟨p, -, h1, h2⟩ h
    have e : a &&& b = 0 := by omega
    have : (a &&& b).testBit p = true := by rw [Nat.testBit_and, h1, h2]; rfl
    rw [e, Nat.zero_testBit] at this
    cases this
theorem k8 {n : Nat} (h : Nat.ble n 8 = true) : n ≤ 8 := Nat.le_of_ble_eq_true h
theorem iI_sh1i {p : Int} (h0 : 0 ≤ p) (h1 : p < 6) : iI 1 <<< (iI p &&& 31) = iI ((2 ^ p.toNat : Nat) : Int) := by
  obtain ⟨q, rfl⟩ := Int.eq_ofNat_of_zero_le h0
  exact iI_sh1 (by omega)
theorem iI_biti {a : Nat} {p : Int} (ha : a < 64) (h0 : 0 ≤ p) (h1 : p < 6) : (iI (a : Int) >>> (iI p &&& 31)) &&& iI 1 = iI (if a.testBit p.toNat then 1 else 0) := by
  obtain ⟨q, rfl⟩ := Int.eq_ofNat_of_zero_le h0
  exact iI_bit ha (by omega)
theorem kIl {P : Prop} {b : Bool} (h : P ↔ b = true) : (if b then (1 : Int) else 0) = kB P := by
  by_cases c : P
  · rw [kB_t c, h.mp c]; rfl
  · rw [kB_f c]
    cases e : b with
    | true => exact absurd (h.mpr e) c
    | false => rfl
section KP
variable {l : Launch} {G : kG} {y : kMR} {d : Nat} {Φ : Option Value → kAH → Prop} {Ψ : String → kAH → Prop} {k n pc pc1 : Nat} {L : List (Option Value)} {st rest : List Value} {h h1 : kAH}
def kPq (v : Value) (h : kAH) : Option Value → kAH → Prop := fun r h' => r = some v ∧ h' = h
def kNo : String → kAH → Prop := fun _ _ => False
abbrev kP (l : Launch) (G : kG) (y : kMR) (d : Nat) (as : List Value) (h : kAH) (v : Value) : Prop := kC l G y d 0 0 as h (kPq v h) kNo
theorem k_callVP {y' : kMR} {d' idx nA ci b pc3 : Nat} {as fs : List Value} {r : vw_C} {v : Value} (hd : decode y.2.1 pc = .ok (.invokevirtual idx, 3)) (e3 : pc + 3 = pc3) (hlk : Cond.methodLink y.1.cls idx y'.1 ∈ kW0) (hok : kOkV y' nA) (hM : kC l G y' d' 0 0 (.ref b :: as) h (kPq v h1) kNo)
    (hb9 : h b = some (.inr (ci, fs))) (hnA : as.length = nA) (hst : st = as.reverse ++ .ref b :: rest) (hci : vwCl[ci]? = some r) (hr9 : r.1 = y'.1.cls) (hdd : d' < d) (hml9 : y'.2.2.1 ≤ 20) (hw : (rest.map fun v => v.category).sum ≤ 8)
    (kk : kW l G y d Φ Ψ k n pc3 L (v :: rest) h1) : kW l G y d Φ Ψ k n pc L st h :=
  k_callV hd e3 hlk hok hnA hst hb9 hci hr9 hM hdd hml9 (Nat.zero_le _) (Nat.zero_le _) hw (fun v' h' q => by
    obtain ⟨rfl, rfl⟩ := q
    exact kk) (fun E h' q => q.elim)
theorem k_callSP {y' : kMR} {d' idx nA pc3 : Nat} {as : List Value} {v : Value} (hd : decode y.2.1 pc = .ok (.invokestatic idx, 3)) (e3 : pc + 3 = pc3) (hlk : Cond.methodLink y.1.cls idx y'.1 ∈ kW0) (hok : kOkS y' nA) (hM : kC l G y' d' 0 0 as h (kPq v h1) kNo)
    (hh9 : y'.2.2.2.2 = []) (hnA : as.length = nA) (hst : st = as.reverse ++ rest) (hdd : d' < d) (hml9 : y'.2.2.1 ≤ 20) (hw : (rest.map fun v => v.category).sum ≤ 8)
    (kk : kW l G y d Φ Ψ k n pc3 L (v :: rest) h1) : kW l G y d Φ Ψ k n pc L st h :=
  k_callS hd e3 hh9 hlk hok hnA hst hM hdd hml9 (Nat.zero_le _) (Nat.zero_le _) hw (fun v' h' q => by
    obtain ⟨rfl, rfl⟩ := q
    exact kk) (fun E h' q => q.elim)
theorem k_forget (i : Nat) (kk : kW l G y d Φ Ψ k n pc (L.set i none) st h) : kW l G y d Φ Ψ k n pc L st h :=
  k_weak (fun j v hj => by
    by_cases e : i = j
    · subst e
      rw [List.getElem?_set] at hj
      split at hj
      · split at hj <;> cases hj
      · exact absurd rfl (by assumption)
    · rw [List.getElem?_set_ne e] at hj
      exact hj) kk
theorem kret {a b : Int} (e : a = b) (h : kAH) : kPq (.int (iI b)) h (some (.int (iI a))) h := by
  subst e
  exact ⟨rfl, rfl⟩
end KP
