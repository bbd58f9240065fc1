/-! ===== the reference's longer loops: steps ===== -/
def fcP (f : Nat → Int) (q : Nat) (n k : Int) (x : Nat) : Prop := 16 * k ≤ (x : Int) ∧ (x : Int) % 16 + n ≤ 16 ∧ 0 ≤ rmF f q ((x : Int) / 16) ((x : Int) % 16) n
theorem fc_at {f : Nat → Int} {q : Nat} {n k e t : Int} (hk : 0 ≤ k) (he : k ≤ e ∧ e < 28) (ht : 0 ≤ t ∧ t + n ≤ 16) (hn : 1 ≤ n) (hJ : ∀ x : Nat, (x : Int) < 16 * e + t → ¬ fcP f q n k x) (hr : 0 ≤ rmF f q e t n) : fcF f q n k = 16 * e + t := by
  have h0 : (((16 * e + t).toNat : Nat) : Int) = 16 * e + t := Int.toNat_of_nonneg (by omega)
  have h1 : (16 * e + t) / 16 = e := by omega
  have h2 : (16 * e + t) % 16 = t := by omega
  refine (kls_at (n := 448) (i := (16 * e + t).toNat) (by omega) ?_ (fun j hj => hJ j (by omega))).trans h0
  show 16 * k ≤ (((16 * e + t).toNat : Nat) : Int) ∧ (((16 * e + t).toNat : Nat) : Int) % 16 + n ≤ 16 ∧ 0 ≤ rmF f q ((((16 * e + t).toNat : Nat) : Int) / 16) ((((16 * e + t).toNat : Nat) : Int) % 16) n
  rw [h0, h1, h2]
  exact ⟨by omega, by omega, hr⟩
theorem fc_no {f : Nat → Int} {q : Nat} {n k e : Int} (he : 28 ≤ e) (hJ : ∀ x : Nat, (x : Int) < 16 * e + 0 → ¬ fcP f q n k x) : fcF f q n k < 0 := by
  have : fcF f q n k = -1 := kls_none (fun i hi => hJ i (by omega))
  omega
theorem fc_s {f : Nat → Int} {q : Nat} {n k e t : Int} (he : 0 ≤ e) (ht : 0 ≤ t ∧ t + n ≤ 16) (hn : 1 ≤ n) (hJ : ∀ x : Nat, (x : Int) < 16 * e + t → ¬ fcP f q n k x) (hr : rmF f q e t n < 0) : ∀ x : Nat, (x : Int) < 16 * e + (t + 1) → ¬ fcP f q n k x := by
  intro x hx z
  by_cases c : (x : Int) < 16 * e + t
  · exact hJ x c z
  · have h1 : (x : Int) / 16 = e := by omega
    have h2 : (x : Int) % 16 = t := by omega
    have := z.2.2
    rw [h1, h2] at this
    omega
theorem fc_n {f : Nat → Int} {q : Nat} {n k e t : Int} (he : 0 ≤ e) (ht : 0 ≤ t ∧ t ≤ 16 ∧ 16 < t + n) (hJ : ∀ x : Nat, (x : Int) < 16 * e + t → ¬ fcP f q n k x) : ∀ x : Nat, (x : Int) < 16 * (e + 1) + 0 → ¬ fcP f q n k x := by
  intro x hx z
  by_cases c : (x : Int) < 16 * e + t
  · exact hJ x c z
  · have := z.2.1
    omega
theorem fcF_r (f : Nat → Int) (q : Nat) (n k : Int) : -1 ≤ fcF f q n k ∧ fcF f q n k < 448 := by
  unfold fcF
  rcases kls_spec (fun x => 16 * k ≤ (x : Int) ∧ (x : Int) % 16 + n ≤ 16 ∧ 0 ≤ rmF f q ((x : Int) / 16) ((x : Int) % 16) n) 448 with ⟨h1, -⟩ | ⟨i, h1, h2, -⟩ <;> rw [h1] <;> omega
theorem wf_mi {f : Nat → Int} (hW : kWf f) {m d p : Int} (hp : 0 ≤ p ∧ p < 6) (hi : inP f m d) (ho : onF f m d) (he : exF f m p) : ¬ miF f m d p := by
  rintro ⟨m', d', h1, h2, h3, h4, h5, h6⟩
  have g1 := kWf_m hW hi.1 hi.2.1
  have g2 := kWf_m hW h1.1 h1.2.1
  have b := btF_neg.mp h6
  refine ((hW.2.2.2.2.2.2.2.2.2.2 m d m' d' hi.1 hi.2.1 hi.2.2.1 hi.2.2.2 h1.1 h1.2.1 h1.2.2.1 h1.2.2.2 (fun z => h2 ⟨z.1.symm, z.2.symm⟩) ho h3 h5.symm (by omega) (by omega)).2 p hp.1 hp.2) ⟨he, h4⟩
theorem wkS_r {b : Int} {x : Int × Int} (hb : 0 ≤ b ∧ b ≤ 1) : -1 ≤ (wkS b x).2 ∧ (wkS b x).2 ≤ 1 := by
  have e : wkS b x = (kI (0 ≤ x.2 ∧ x.2 ≠ b) (x.1 + 1) x.1, b) := wkS_eq hb.1
  rw [e]
  exact ⟨by show -1 ≤ b; omega, hb.2⟩
