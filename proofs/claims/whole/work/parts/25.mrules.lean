/-! ===== rules for the reference's row of rooms ===== -/
section KR2
variable {l : Launch} {G : kG} {y : kMR} {d : Nat} {Φ : Option Value → kAH → Prop} {Ψ : String → kAH → Prop} {k n pc pc1 : Nat} {L : List (Option Value)} {st rest : List Value} {h : kAH} {o g r : Nat} {c wm wd : Int} {f rr : Nat → Int}
theorem k_iastR {i x : Int} (hd : decode y.2.1 pc = .ok (.iastore, 1)) (hp : pc + 1 = pc1) (hM : kMd G h o g r c wm wd f) (hR : h r = some (kio G 6 rr)) (hi : 0 ≤ i) (hi2 : i < 6)
    (kk : ∀ h1, kMd G h1 o g r c wm wd f → h1 r = some (kio G 6 (kiu rr i.toNat x)) → kFw o g r h h1 → kW l G y d Φ Ψ k n pc1 L st h1) : kW l G y d Φ Ψ k n pc L (.int (iI x) :: .int (iI i) :: .ref r :: st) h := by
  obtain ⟨n1, n2, n3⟩ := kMd_og hM
  exact k_iast hd hp hR hi hi2 (by decide) (kk _ ⟨(kup_ne (Ne.symm n2)).trans hM.1, (kup_ne (Ne.symm n3)).trans hM.2.1, _, kup_same _ _ _⟩ (kup_same _ _ _) (fun a x y z => kup_ne z))
def kMw (G : kG) (o g r : Nat) (T : kT) (h : kAH) : Option Value → kAH → Prop := fun v h' => v = some (.int (iI T.2.1)) ∧ kMd G h' o g r T.1 (-1) (-1) T.2.2 ∧ kFw o g r h h'
theorem kMw_mk {h1 : kAH} {T : kT} {c1 v1 : Int} {f1 : Nat → Int} (e : T = (c1, v1, f1)) (q1 : kMd G h1 o g r c1 (-1) (-1) f1) (q2 : kFw o g r h h1) : kMw G o g r T h (some (.int (iI v1))) h1 := by
  subst e
  exact ⟨rfl, q1, q2⟩
theorem kmul_r {k j : Int} (h1 : 0 ≤ k ∧ k ≤ 14) (h2 : 0 ≤ j ∧ j ≤ 5) : 0 ≤ k * j ∧ k * j ≤ 70 := by
  have a : 0 ≤ k * j := Int.mul_nonneg h1.1 h2.1
  have b : k * j ≤ 14 * j := Int.mul_le_mul_of_nonneg_right h1.2 h2.1
  omega
theorem kmul_m {k j e : Int} (h1 : 0 ≤ k) (h2 : j ≤ e) : k * j ≤ k * e := Int.mul_le_mul_of_nonneg_left h2 h1
end KR2
