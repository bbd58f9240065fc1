/-! ===== rules over the reference's state ===== -/
def lyF (f : Nat → Int) (m w v : Int) : Nat → Int := kiu f (20 + 40 * m + w).toNat v
def dtF (f : Nat → Int) (m d k t rm : Int) : Nat → Int := lyF (lyF (lyF (lyF f m (10 + 4 * d + 0) k) m (10 + 4 * d + 1) t) m (10 + 4 * d + 2) 0) m (10 + 4 * d + 3) rm
def rfF (f : Nat → Int) (a b : Int) : Nat → Int := kiu (kiu f 3 a) 4 b
section KM
variable {l : Launch} {G : kG} {y : kMR} {d : Nat} {Φ : Option Value → kAH → Prop} {Ψ : String → kAH → Prop} {k n pc pc1 : Nat} {L : List (Option Value)} {st rest : List Value} {h : kAH} {o g r : Nat} {c wm wd : Int} {f : Nat → Int}
def kMq (G : kG) (o g r : Nat) (V : Option Value) (c wm wd : Int) (f : Nat → Int) (h : kAH) : Option Value → kAH → Prop := fun v h' => v = V ∧ kMd G h' o g r c wm wd f ∧ kFm o g r h h'
theorem k_iastM {i x : Int} (hd : decode y.2.1 pc = .ok (.iastore, 1)) (hp : pc + 1 = pc1) (hM : kMd G h o g r c wm wd f) (hi : 0 ≤ i) (hi2 : i < 380)
    (kk : ∀ h1, kMd G h1 o g r c wm wd (kiu f i.toNat x) → kFm o g r h h1 → kW l G y d Φ Ψ k n pc1 L st h1) : kW l G y d Φ Ψ k n pc L (.int (iI x) :: .int (iI i) :: .ref g :: st) h :=
  k_iast hd hp hM.2.1 hi hi2 (by decide) (kk _ (kMd_f hM _).1 (kMd_f hM _).2)
theorem k_putM1 {x : Int} (hy : y.1.cls = RX6) (hd : decode y.2.1 pc = .ok (.putfield 23, 3)) (hp : pc + 3 = pc1) (hM : kMd G h o g r c wm wd f)
    (kk : ∀ h1, kMd G h1 o g r x wm wd f → kFm o g r h h1 → kW l G y d Φ Ψ k n pc1 L st h1) : kW l G y d Φ Ψ k n pc L (.int (iI x) :: .ref o :: st) h :=
  k_put (kf := 1) (ty := .int) (fin := false) hd hp (by rw [hy]; exact fp_RX6_23) (Or.inl rfl) hM.1 (Nat.le_of_ble_eq_true rfl) rfl rfl (kk _ (kMd_o hM x wm wd).1 (kMd_o hM x wm wd).2)
theorem k_putM2 {x : Int} (hy : y.1.cls = RX6) (hd : decode y.2.1 pc = .ok (.putfield 13, 3)) (hp : pc + 3 = pc1) (hM : kMd G h o g r c wm wd f)
    (kk : ∀ h1, kMd G h1 o g r c x wd f → kFm o g r h h1 → kW l G y d Φ Ψ k n pc1 L st h1) : kW l G y d Φ Ψ k n pc L (.int (iI x) :: .ref o :: st) h :=
  k_put (kf := 2) (ty := .int) (fin := false) hd hp (by rw [hy]; exact fp_RX6_13) (Or.inl rfl) hM.1 (Nat.le_of_ble_eq_true rfl) rfl rfl (kk _ (kMd_o hM c x wd).1 (kMd_o hM c x wd).2)
theorem k_putM3 {x : Int} (hy : y.1.cls = RX6) (hd : decode y.2.1 pc = .ok (.putfield 17, 3)) (hp : pc + 3 = pc1) (hM : kMd G h o g r c wm wd f)
    (kk : ∀ h1, kMd G h1 o g r c wm x f → kFm o g r h h1 → kW l G y d Φ Ψ k n pc1 L st h1) : kW l G y d Φ Ψ k n pc L (.int (iI x) :: .ref o :: st) h :=
  k_put (kf := 3) (ty := .int) (fin := false) hd hp (by rw [hy]; exact fp_RX6_17) (Or.inl rfl) hM.1 (Nat.le_of_ble_eq_true rfl) rfl rfl (kk _ (kMd_o hM c wm x).1 (kMd_o hM c wm x).2)
theorem k_callVM {y' : kMR} {d' idx nA pc3 : Nat} {as : List Value} {v : Value} {c' wm' wd' : Int} {f' : Nat → Int} (hd : decode y.2.1 pc = .ok (.invokevirtual idx, 3)) (e3 : pc + 3 = pc3) (hlk : Cond.methodLink y.1.cls idx y'.1 ∈ kW0) (hok : kOkV y' nA) (hm : kMd G h o g r c wm wd f) (hM : kC l G y' d' 0 0 (.ref o :: as) h (kMq G o g r (some v) c' wm' wd' f' h) kNo)
    (hr9 : y'.1.cls = RX6) (hnA : as.length = nA) (hst : st = as.reverse ++ .ref o :: rest) (hdd : d' < d) (hml9 : y'.2.2.1 ≤ 20) (hw : (rest.map fun v => v.category).sum ≤ 8)
    (kk : ∀ h1, kMd G h1 o g r c' wm' wd' f' → kFm o g r h h1 → kW l G y d Φ Ψ k n pc3 L (v :: rest) h1) : kW l G y d Φ Ψ k n pc L st h :=
  k_callV hd e3 hlk hok hnA hst hm.1 rfl hr9.symm hM hdd hml9 (Nat.zero_le _) (Nat.zero_le _) hw (fun v' h' q => by
    obtain ⟨rfl, q1, q2⟩ := q
    exact kk h' q1 q2) (fun E h' q => q.elim)
theorem k_callVMn {y' : kMR} {d' idx nA pc3 : Nat} {as : List Value} {c' wm' wd' : Int} {f' : Nat → Int} (hd : decode y.2.1 pc = .ok (.invokevirtual idx, 3)) (e3 : pc + 3 = pc3) (hlk : Cond.methodLink y.1.cls idx y'.1 ∈ kW0) (hok : kOkV y' nA) (hm : kMd G h o g r c wm wd f) (hM : kC l G y' d' 0 0 (.ref o :: as) h (kMq G o g r none c' wm' wd' f' h) kNo)
    (hr9 : y'.1.cls = RX6) (hnA : as.length = nA) (hst : st = as.reverse ++ .ref o :: rest) (hdd : d' < d) (hml9 : y'.2.2.1 ≤ 20) (hw : (rest.map fun v => v.category).sum ≤ 8)
    (kk : ∀ h1, kMd G h1 o g r c' wm' wd' f' → kFm o g r h h1 → kW l G y d Φ Ψ k n pc3 L rest h1) : kW l G y d Φ Ψ k n pc L st h :=
  k_callV hd e3 hlk hok hnA hst hm.1 rfl hr9.symm hM hdd hml9 (Nat.zero_le _) (Nat.zero_le _) hw (fun v' h' q => by
    obtain ⟨rfl, q1, q2⟩ := q
    exact kk h' q1 q2) (fun E h' q => q.elim)
theorem kMq_mk {h1 : kAH} {v v' : Value} {c' wm' wd' : Int} {f' : Nat → Int} {c1 : Int} {f1 : Nat → Int} (e : v = v') (e1 : c1 = c') (e2 : f1 = f') (q1 : kMd G h1 o g r c1 wm' wd' f1) (q2 : kFm o g r h h1) : kMq G o g r (some v') c' wm' wd' f' h (some v) h1 := by
  subst e; subst e1; subst e2
  exact ⟨rfl, q1, q2⟩
-- an outcome: code, value, row
abbrev kT : Type := Int × Int × (Nat → Int)
def kMt (G : kG) (o g r : Nat) (T : kT) (h : kAH) : Option Value → kAH → Prop := kMq G o g r (some (.int (iI T.2.1))) T.1 (-1) (-1) T.2.2 h
theorem kMt_mk {h1 : kAH} {T : kT} {c1 v1 : Int} {f1 : Nat → Int} (e : T = (c1, v1, f1)) (q1 : kMd G h1 o g r c1 (-1) (-1) f1) (q2 : kFm o g r h h1) : kMt G o g r T h (some (.int (iI v1))) h1 := by
  subst e
  exact ⟨rfl, q1, q2⟩
end KM
