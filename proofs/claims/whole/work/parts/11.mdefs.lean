/-! ===== the reference's state: one row of ints; what its private methods answer, as functions of the row ===== -/
theorem kn_b (P : Prop) : narrow .boolean (.int (iI (kB P))) = .int (iI (kB P)) := by
  by_cases c : P
  · rw [kB_t c]; rfl
  · rw [kB_f c]; rfl
theorem iI_i2c {z : Int} (h0 : 0 ≤ z) (h1 : z < 65536) : (((iI z).toUInt32) % 65536).toInt32 = iI z := by
  obtain ⟨q, rfl⟩ := Int.eq_ofNat_of_zero_le h0
  have e : ∀ x : Nat, iI (x : Int) = Int32.ofBitVec (BitVec.ofNat 32 x) := fun x => by
    rw [← Int32.toBitVec_inj]; unfold iI; rw [Int32.toBitVec_ofInt, Int32.toBitVec_ofBitVec, BitVec.ofInt_natCast]
  rw [e, ← Int32.toBitVec_inj]
  show (BitVec.ofNat 32 q) % 65536#32 = BitVec.ofNat 32 q
  refine BitVec.eq_of_toNat_eq ?_
  rw [BitVec.toNat_umod, BitVec.toNat_ofNat]
  show q % 4294967296 % 65536 = q % 4294967296
  omega
theorem kn_c {z : Int} (h0 : 0 ≤ z) (h1 : z < 65536) : narrow .char (.int (iI z)) = .int (iI z) := congrArg Value.int (iI_i2c h0 h1)
def oF (f : Nat → Int) (m w : Int) : Int := f (20 + 40 * m + w).toNat
def dF (f : Nat → Int) (m d w : Int) : Int := oF f m (10 + 4 * d + w)
def exF (f : Nat → Int) (m p : Int) : Prop := p = oF f m 1 ∨ oF f m (4 + p) = 111 ∨ oF f m (4 + p) = 121
noncomputable def ppF (f : Nat → Int) (m : Int) : Nat := kmk (fun p => exF f m (p : Int)) 6
def onF (f : Nat → Int) (m d : Int) : Prop := dF f m d 2 = 0
noncomputable def btF (f : Nat → Int) (m d t n : Int) : Int := kI (t ≤ dF f m d 1) (dF f m d 1 - t - n) (t - dF f m d 1 - oF f m 2)
def ctF (f : Nat → Int) (wm wd m d k : Int) : Prop := onF f m d ∧ dF f m d 0 = k ∧ ¬(m = wm ∧ d = wd)
abbrev kMo (g : Nat) (c wm wd : Int) (r : Nat) : va_E := .inr (10, [.ref g, .int (iI c), .int (iI wm), .int (iI wd), .ref r])
def kMd (G : kG) (h : kAH) (o g r : Nat) (c wm wd : Int) (f : Nat → Int) : Prop := h o = some (kMo g c wm wd r) ∧ h g = some (kio G 380 f) ∧ ∃ rr : Nat → Int, h r = some (kio G 6 rr)
def kFm (o g r : Nat) (h h' : kAH) : Prop := ∀ a : Nat, a ≠ o → a ≠ g → h' a = h a
def kFw (o g r : Nat) (h h' : kAH) : Prop := ∀ a : Nat, a ≠ o → a ≠ g → a ≠ r → h' a = h a
theorem kFm.w {o g r : Nat} {h h' : kAH} (q : kFm o g r h h') : kFw o g r h h' := fun a x y _ => q a x y
theorem kFw_tr {o g r : Nat} {h h1 h2 : kAH} (q : kFw o g r h h1) (q2 : kFw o g r h1 h2) : kFw o g r h h2 := fun a x y z => (q2 a x y z).trans (q a x y z)
theorem kFm_rf (o g r : Nat) (h : kAH) : kFm o g r h h := fun _ _ _ => rfl
theorem kFm_tr {o g r : Nat} {h h1 h2 : kAH} (q : kFm o g r h h1) (q2 : kFm o g r h1 h2) : kFm o g r h h2 := fun a x y => (q2 a x y).trans (q a x y)
theorem kMd_og {G : kG} {h : kAH} {o g r : Nat} {c wm wd : Int} {f : Nat → Int} (q : kMd G h o g r c wm wd f) : g ≠ o ∧ r ≠ o ∧ r ≠ g := by
  obtain ⟨q1, q2, rr, q3⟩ := q
  refine ⟨fun e => ?_, fun e => ?_, fun e => ?_⟩
  · rw [e, q1] at q2; injection q2 with q2; cases q2
  · rw [e, q1] at q3; injection q3 with q3; cases q3
  · rw [e, q2] at q3; injection q3 with q3; injection q3 with q3; injection q3 with _ q3; injection q3 with q3 _; exact absurd q3 (by decide)
theorem kMd_f {G : kG} {h : kAH} {o g r : Nat} {c wm wd : Int} {f : Nat → Int} (q : kMd G h o g r c wm wd f) (f' : Nat → Int) : kMd G (kup h g (kio G 380 f')) o g r c wm wd f' ∧ kFm o g r h (kup h g (kio G 380 f')) := by
  obtain ⟨n1, n2, n3⟩ := kMd_og q
  obtain ⟨q1, q2, rr, q3⟩ := q
  exact ⟨⟨(kup_ne (Ne.symm n1)).trans q1, kup_same _ _ _, rr, (kup_ne n3).trans q3⟩, fun a x y => kup_ne y⟩
theorem kMd_o {G : kG} {h : kAH} {o g r : Nat} {c wm wd : Int} {f : Nat → Int} (q : kMd G h o g r c wm wd f) (c' wm' wd' : Int) : kMd G (kup h o (kMo g c' wm' wd' r)) o g r c' wm' wd' f ∧ kFm o g r h (kup h o (kMo g c' wm' wd' r)) := by
  obtain ⟨n1, n2, n3⟩ := kMd_og q
  obtain ⟨q1, q2, rr, q3⟩ := q
  exact ⟨⟨kup_same _ _ _, (kup_ne n1).trans q2, rr, (kup_ne n2).trans q3⟩, fun a x y => kup_ne x⟩
-- what stands of the row
def kWf (f : Nat → Int) : Prop :=
  (0 ≤ f 0 ∧ f 0 ≤ 3) ∧ (0 ≤ f 1 ∧ f 1 ≤ 8) ∧ (0 ≤ f 2 ∧ f 2 ≤ 1000000) ∧ (0 ≤ f 3 ∧ f 3 ≤ 4) ∧ (0 ≤ f 4 ∧ f 4 ≤ 6) ∧
  (∀ r : Int, 0 ≤ r → r < 4 → 0 ≤ f (5 + r).toNat ∧ f (5 + r).toNat ≤ 6 ∧ 0 ≤ f (9 + r).toNat ∧ f (9 + r).toNat ≤ 1) ∧
  (∀ m : Int, 0 ≤ m → m < f 1 → 0 ≤ oF f m 0 ∧ oF f m 0 < f 2 ∧ 0 ≤ oF f m 1 ∧ oF f m 1 < 6 ∧ 1 ≤ oF f m 2 ∧ oF f m 2 ≤ 6 ∧ 1 ≤ oF f m 3 ∧ oF f m 3 ≤ 6) ∧
  (∀ m p : Int, 0 ≤ m → m < f 1 → 0 ≤ p → p < 6 → (oF f m (4 + p) = 45 ∨ oF f m (4 + p) = 111 ∨ oF f m (4 + p) = 121 ∨ oF f m (4 + p) = 110) ∧ (p = oF f m 1 → oF f m (4 + p) = 45)) ∧
  (∀ m d : Int, 0 ≤ m → m < f 1 → 0 ≤ d → d < oF f m 3 → 0 ≤ dF f m d 0 ∧ dF f m d 0 < 28 ∧ 0 ≤ dF f m d 1 ∧ dF f m d 1 + oF f m 2 ≤ 16 ∧ 0 ≤ dF f m d 2 ∧ dF f m d 2 ≤ 1 ∧ 0 ≤ dF f m d 3 ∧ dF f m d 3 < 4) ∧
  (∀ m m' : Int, 0 ≤ m → m < m' → m' < f 1 → oF f m 0 < oF f m' 0) ∧
  (∀ m d m' d' : Int, 0 ≤ m → m < f 1 → 0 ≤ d → d < oF f m 3 → 0 ≤ m' → m' < f 1 → 0 ≤ d' → d' < oF f m' 3 → ¬(m = m' ∧ d = d') → onF f m d → onF f m' d' → dF f m d 0 = dF f m' d' 0 →
    dF f m d 1 < dF f m' d' 1 + oF f m' 2 → dF f m' d' 1 < dF f m d 1 + oF f m 2 → dF f m d 3 ≠ dF f m' d' 3 ∧ ∀ p : Int, 0 ≤ p → p < 6 → ¬(exF f m p ∧ exF f m' p))
theorem kWf_gap {f : Nat → Int} (q : kWf f) : 0 ≤ f 0 ∧ f 0 ≤ 3 := q.1
theorem kWf_cnt {f : Nat → Int} (q : kWf f) : 0 ≤ f 1 ∧ f 1 ≤ 8 := q.2.1
theorem kWf_nxt {f : Nat → Int} (q : kWf f) : 0 ≤ f 2 ∧ f 2 ≤ 1000000 := q.2.2.1
theorem kWf_rsn {f : Nat → Int} (q : kWf f) : 0 ≤ f 3 ∧ f 3 ≤ 4 := q.2.2.2.1
theorem kWf_dtl {f : Nat → Int} (q : kWf f) : 0 ≤ f 4 ∧ f 4 ≤ 6 := q.2.2.2.2.1
theorem kWf_room {f : Nat → Int} (q : kWf f) {r : Int} (h0 : 0 ≤ r) (h1 : r < 4) : 0 ≤ f (5 + r).toNat ∧ f (5 + r).toNat ≤ 6 ∧ 0 ≤ f (9 + r).toNat ∧ f (9 + r).toNat ≤ 1 := q.2.2.2.2.2.1 r h0 h1
theorem kWf_m {f : Nat → Int} (q : kWf f) {m : Int} (h0 : 0 ≤ m) (h1 : m < f 1) : 0 ≤ oF f m 0 ∧ oF f m 0 < f 2 ∧ 0 ≤ oF f m 1 ∧ oF f m 1 < 6 ∧ 1 ≤ oF f m 2 ∧ oF f m 2 ≤ 6 ∧ 1 ≤ oF f m 3 ∧ oF f m 3 ≤ 6 := q.2.2.2.2.2.2.1 m h0 h1
theorem kWf_p {f : Nat → Int} (q : kWf f) {m p : Int} (h0 : 0 ≤ m) (h1 : m < f 1) (h2 : 0 ≤ p) (h3 : p < 6) : (oF f m (4 + p) = 45 ∨ oF f m (4 + p) = 111 ∨ oF f m (4 + p) = 121 ∨ oF f m (4 + p) = 110) ∧ (p = oF f m 1 → oF f m (4 + p) = 45) := q.2.2.2.2.2.2.2.1 m p h0 h1 h2 h3
theorem kWf_d {f : Nat → Int} (q : kWf f) {m d : Int} (h0 : 0 ≤ m) (h1 : m < f 1) (h2 : 0 ≤ d) (h3 : d < oF f m 3) : 0 ≤ dF f m d 0 ∧ dF f m d 0 < 28 ∧ 0 ≤ dF f m d 1 ∧ dF f m d 1 + oF f m 2 ≤ 16 ∧ 0 ≤ dF f m d 2 ∧ dF f m d 2 ≤ 1 ∧ 0 ≤ dF f m d 3 ∧ dF f m d 3 < 4 := q.2.2.2.2.2.2.2.2.1 m d h0 h1 h2 h3
theorem kWf_inc {f : Nat → Int} (q : kWf f) {m m' : Int} (h0 : 0 ≤ m) (h1 : m < m') (h2 : m' < f 1) : oF f m 0 < oF f m' 0 := q.2.2.2.2.2.2.2.2.2.1 m m' h0 h1 h2
