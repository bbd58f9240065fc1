/-! ===== rules for the JDK's own: constants, arraycopy, getClass, class constants ===== -/
theorem kc_RJ6_265 : Cond.constant RJ6 265 (1431655765 : Int32) ∈ kW0 := kW0_in (inT1 (List.mem_of_getElem? (i := 172) rfl)) rfl
theorem kc_RJ6_266 : Cond.constant RJ6 266 (858993459 : Int32) ∈ kW0 := kW0_in (inT1 (List.mem_of_getElem? (i := 173) rfl)) rfl
theorem kc_RJ6_267 : Cond.constant RJ6 267 (252645135 : Int32) ∈ kW0 := kW0_in (inT1 (List.mem_of_getElem? (i := 174) rfl)) rfl
theorem kc_RJ8_200 : Cond.constant RJ8 200 (2147483639 : Int32) ∈ kW0 := kW0_in (inT2 (List.mem_of_getElem? (i := 215) rfl)) rfl
theorem ac_nat : Cond.native arraycopyName ∈ kW0 := kW0_in (inT3 (List.mem_of_getElem? (i := 14) rfl)) rfl
theorem ac_stat : Cond.static arraycopyName ∈ kW0 := kW0_in (inT3 (List.mem_of_getElem? (i := 13) rfl)) rfl
theorem ac_ini : Cond.initialized "java/lang/System" ∈ kW0 := kW0_in (inT1 (List.mem_of_getElem? (i := 18) rfl)) rfl
theorem gc_sel : Cond.selects "[Ljava/lang/Object;" ⟨"java/lang/Object", "getClass", "()Ljava/lang/Class;"⟩ ⟨"java/lang/Object", "getClass", "()Ljava/lang/Class;"⟩ ∈ kW0 := kW0_in (inT7 (List.mem_of_getElem? (i := 37) rfl)) rfl
theorem gc_inst : Cond.instanceMethod ⟨"java/lang/Object", "getClass", "()Ljava/lang/Class;"⟩ ∈ kW0 := kW0_in (inT2 (List.mem_of_getElem? (i := 223) rfl)) rfl
theorem gc_nat : Cond.native ⟨"java/lang/Object", "getClass", "()Ljava/lang/Class;"⟩ ∈ kW0 := kW0_in (inT3 (List.mem_of_getElem? (i := 2) rfl)) rfl
section KJ
variable {l : Launch} {G : kG} {y : kMR} {d : Nat} {Φ : Option Value → kAH → Prop} {Ψ : String → kAH → Prop} {k n pc pc1 : Nat} {L : List (Option Value)} {st rest : List Value} {h : kAH}
theorem k_ldc {idx : Nat} {v : Int32} (hd : decode y.2.1 pc = .ok (.ldc idx, 2)) (hp : pc + 2 = pc1) (hc : Cond.constant y.1.cls idx v ∈ kW0) (kk : kW l G y d Φ Ψ k n pc1 L (.int v :: st) h) : kW l G y d Φ Ψ k n pc L st h := by
  subst hp
  intro p e R s m args below meth c H locs cells slots ls F h1 h2 h3 h4 h5
  obtain ⟨hx, hb, hml, hr9, hlocks, hnm, hown, htab, hts, hE, -⟩ := id F
  exact lv_ldc hx hb hown (hts _ hc) hd (kk p e R s m args below meth c H locs cells slots ls F h1 h2 h3 h4 h5)
theorem k_ldcw {idx : Nat} {v : Int32} (hd : decode y.2.1 pc = .ok (.ldc_w idx, 3)) (hp : pc + 3 = pc1) (hc : Cond.constant y.1.cls idx v ∈ kW0) (kk : kW l G y d Φ Ψ k n pc1 L (.int v :: st) h) : kW l G y d Φ Ψ k n pc L st h := by
  subst hp
  intro p e R s m args below meth c H locs cells slots ls F h1 h2 h3 h4 h5
  obtain ⟨hx, hb, hml, hr9, hlocks, hnm, hown, htab, hts, hE, -⟩ := id F
  exact lv_ldcw hx hb hown (hts _ hc) hd (kk p e R s m args below meth c H locs cells slots ls F h1 h2 h3 h4 h5)
theorem k_ldcC {idx : Nat} (hd : decode y.2.1 pc = .ok (.ldc idx, 2)) (hp : pc + 2 = pc1) (hc : Cond.classLink y.1.cls idx "[Ljava/lang/Object;" ∈ kW0) (kk : kW l G y d Φ Ψ k n pc1 L (.ref (G.2.1 6) :: st) h) : kW l G y d Φ Ψ k n pc L st h := by
  subst hp
  intro p e R s m args below meth c H locs cells slots ls F h1 h2 h3 h4 h5
  obtain ⟨hx, hb, hml, hr9, hlocks, hnm, hown, htab, hts, hE, -⟩ := id F
  exact va_ldcM hx hb hown (hts _ hc) hE.2.2.2.2.2.2.2.2.2.2.2.2.2.1 hd (kk p e R s m args below meth c H locs cells slots ls F h1 h2 h3 h4 h5)
theorem k_getC {idx a N : Nat} {f : Nat → Option Nat} (hd : decode y.2.1 pc = .ok (.invokevirtual idx, 3)) (hp : pc + 3 = pc1) (hlk : Cond.methodLink y.1.cls idx ⟨"java/lang/Object", "getClass", "()Ljava/lang/Class;"⟩ ∈ kW0) (ha : h a = some (kro G 3 N f)) (hw : (st.map fun v => v.category).sum ≤ 8)
    (kk : kW l G y d Φ Ψ k n pc1 L (.ref (G.2.1 6) :: st) h) : kW l G y d Φ Ψ k n pc L (.ref a :: st) h := by
  subst hp
  intro p e R s m args below meth c H locs cells slots ls F h1 h2 h3 h4 h5
  obtain ⟨hx, hb, hml, hr9, hlocks, hnm, hown, htab, hts, hE, hfr, hlo, -⟩ := id F
  refine va_getC (C := "[Ljava/lang/Object;") hx hb (by rw [hml]; exact h5.1.symm) hown (hts _ hlk) (va_Dc.use hE.2.2.2.2.2.2.2.2.2.2.2.2.1) (hts _ gc_sel) (hts _ gc_inst) (hts _ gc_nat) hE.2.2.2.2.2.2.2.2.2.2.2.2.2.1 ?_ (Nat.le_trans (by have := kFr_ge d; omega) hfr) (Nat.le_trans (by have := kLo_ge d; omega) hlo) hd (kk p e R s m args below meth c H locs cells slots ls F h1 h2 h3 h4 h5)
  exact ⟨_, kHp_one h3 ha 0 _ rfl, rfl, va_nmO (hE.1.2 3 _ rfl).2 (by decide)⟩
theorem k_copy {idx a0 a1 n0 n1 ci : Nat} {r : vw_C} {f g : Nat → Option Nat} {sp dp nn : Int} (hd : decode y.2.1 pc = .ok (.invokestatic idx, 3)) (hp : pc + 3 = pc1) (hlk : Cond.methodLink y.1.cls idx arraycopyName ∈ kW0) (ha0 : h a0 = some (kro G 3 n0 f)) (ha1 : h a1 = some (kro G 3 n1 g))
    (hs : 0 ≤ sp) (hdp : 0 ≤ dp) (hn0 : 0 ≤ nn) (b0 : sp + nn ≤ n0) (b1 : dp + nn ≤ n1) (m0 : n0 ≤ 1000000) (m1 : n1 ≤ 1000000) (hc : vwCl[ci]? = some r) (hC : (r.1, "java/lang/Object") ∈ kCas)
    (hel : ∀ i : Nat, i < nn.toNat → ∀ q : Nat, f (sp.toNat + i) = some q → ∃ vs : List Value, h q = some (.inr (ci, vs))) (hw : (st.map fun v => v.category).sum ≤ 8)
    (kk : kW l G y d Φ Ψ k n pc1 L st (kup h a1 (kro G 3 n1 (va_cpy f g sp.toNat dp.toNat nn.toNat)))) : kW l G y d Φ Ψ k n pc L (.int (iI nn) :: .int (iI dp) :: .ref a1 :: .int (iI sp) :: .ref a0 :: st) h := by
  subst hp
  intro p e R s m args below meth c H locs cells slots ls F h1 h2 h3 h4 h5
  obtain ⟨hx, hb, hml, hr9, hlocks, hnm, hown, htab, hts, hE, hfr, hlo, -⟩ := id F
  obtain ⟨q0, hq0⟩ := kHp_pl h3 ha0
  obtain ⟨q1, hq1⟩ := kHp_pl h3 ha1
  have c0 := iI_cl hs (show sp < 2147483648 by omega)
  have c1 := iI_cl hdp (show dp < 2147483648 by omega)
  have c2 := iI_cl hn0 (show nn < 2147483648 by omega)
  have ng : ∀ z : Int, 0 ≤ z → z < 2147483648 → ¬ iI z < 0 := fun z z0 z1 q => by
    have := (iI_lt (a := z) (b := 0) ⟨by omega, z1⟩ (by decide)).mp q
    omega
  refine va_copyq hx hb (by rw [hml]; exact h5.1.symm) hown (hts _ hlk) (hts _ ac_nat) (hts _ ac_stat) (hts _ ac_ini) hE.1 (kHp_P h3) (kHp_D h3) h4 q0 q1 3 3 (C := r.1) hq0 hq1 rfl rfl (ng _ hs (by omega)) (ng _ hdp (by omega)) (ng _ hn0 (by omega)) (by rw [c0, c2]; omega) (by rw [c1, c2]; omega) ?_ ?_ (Nat.le_trans (by have := kFr_ge d; omega) hfr) ?_ hd (fun H1 locs1 hP hD hS => ?_)
  · intro i hi q hq
    rw [c0] at hq
    rw [c2] at hi
    obtain ⟨vs, hv⟩ := hel i hi q hq
    exact va_recv hE.1 (kHp_one h3 hv) (ci := ci) (q0 := 0) hc rfl
  · intro comp c9 g1 g2
    obtain ⟨c8, t1, f1, f2, f3⟩ := Cond.castable_spec (va_Nw.use (A := args) rfl (hE.2.2.2.2.2.2.2.1 _ hC))
    cases g2.symm.trans f1
    cases g1.symm.trans f2
    exact f3
  · have hn5 : nativeFrameWords "java/lang/System" "arraycopy" 5 ≤ 30 := by decide
    exact Nat.le_trans (by have := kLo_ge d; omega) hlo
  · rw [c0, c1, c2] at hP
    exact kk p e R s m args below meth c H1 locs1 cells slots ls F h1 h2 (kHp_set h3 hq1 hP) hS h5
theorem k_max {idx : Nat} {a b : Int} (hd : decode y.2.1 pc = .ok (.invokestatic idx, 3)) (hp : pc + 3 = pc1) (hlk : Cond.methodLink y.1.cls idx m_J9_max_7cf53.1 ∈ kW0) (ra : -2147483648 ≤ a ∧ a < 2147483648) (rb : -2147483648 ≤ b ∧ b < 2147483648) (hw : (st.map fun v => v.category).sum ≤ 8)
    (kk : kW l G y d Φ Ψ k n pc1 L (.int (iI (kI (a < b) b a)) :: st) h) : kW l G y d Φ Ψ k n pc L (.int (iI b) :: .int (iI a) :: st) h := by
  subst hp
  intro p e R s m args below meth c H locs cells slots ls F h1 h2 h3 h4 h5
  obtain ⟨hx, hb, hml, hr9, hlocks, hnm, hown, htab, hts, hE, hfr, hlo, -⟩ := id F
  refine va_mmax hx hb (by rw [hml]; exact h5.1.symm) hown (hts _ hlk) (hts _ o_J9_max_7cf53.2) (hts _ o_J9_max_7cf53.1.2.1) (hts _ o_J9_max_7cf53.1.1) (Nat.le_trans (by have := kFr_ge d; omega) hfr) (Nat.le_trans (by have := kLo_ge d; omega) hlo) (by omega) (by omega) hd ?_
  have e9 : (if iI a < iI b then iI b else iI a) = iI (kI (a < b) b a) := by
    by_cases q : a < b
    · rw [if_pos ((iI_lt ra rb).mpr q), kI_t q]
    · rw [if_neg (fun z => q ((iI_lt ra rb).mp z)), kI_f q]
  rw [e9]
  exact kk p e R s m args below meth c H locs cells slots ls F h1 h2 h3 h4 h5
theorem k_min {idx : Nat} {a b : Int} (hd : decode y.2.1 pc = .ok (.invokestatic idx, 3)) (hp : pc + 3 = pc1) (hlk : Cond.methodLink y.1.cls idx m_J9_min_7cf53.1 ∈ kW0) (ra : -2147483648 ≤ a ∧ a < 2147483648) (rb : -2147483648 ≤ b ∧ b < 2147483648) (hw : (st.map fun v => v.category).sum ≤ 8)
    (kk : kW l G y d Φ Ψ k n pc1 L (.int (iI (kI (b < a) b a)) :: st) h) : kW l G y d Φ Ψ k n pc L (.int (iI b) :: .int (iI a) :: st) h := by
  subst hp
  intro p e R s m args below meth c H locs cells slots ls F h1 h2 h3 h4 h5
  obtain ⟨hx, hb, hml, hr9, hlocks, hnm, hown, htab, hts, hE, hfr, hlo, -⟩ := id F
  refine va_mmin hx hb (by rw [hml]; exact h5.1.symm) hown (hts _ hlk) (hts _ o_J9_min_7cf53.2) (hts _ o_J9_min_7cf53.1.2.1) (hts _ o_J9_min_7cf53.1.1) (Nat.le_trans (by have := kFr_ge d; omega) hfr) (Nat.le_trans (by have := kLo_ge d; omega) hlo) (by omega) (by omega) hd ?_
  have e9 : (if iI b < iI a then iI b else iI a) = iI (kI (b < a) b a) := by
    by_cases q : b < a
    · rw [if_pos ((iI_lt rb ra).mpr q), kI_t q]
    · rw [if_neg (fun z => q ((iI_lt rb ra).mp z)), kI_f q]
  rw [e9]
  exact kk p e R s m args below meth c H locs cells slots ls F h1 h2 h3 h4 h5
end KJ
