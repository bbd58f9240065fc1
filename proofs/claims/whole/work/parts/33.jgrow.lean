/-! ===== the JDK: copyOf, grow, add, remove, walked ===== -/
theorem w_copy3 {l : Launch} {G : kG} {h : kAH} (hl : l.stackTraces = false) {ar c : Nat} {F : Nat → Option Nat} (hR : h ar = some (kro G 3 c F)) (hc : c ≤ 200) {N : Nat} (hN : c ≤ N ∧ N ≤ 200) {ci : Nat} {rc : vw_C} (hci : vwCl[ci]? = some rc) (hCo : (rc.1, "java/lang/Object") ∈ kCas) (hEl : ∀ i : Nat, i < c → ∀ q : Nat, F i = some q → ∃ vs : List Value, h q = some (.inr (ci, vs))) : kC l G m_J7_copyOf_6403c 2 1 200 [.ref ar, .int (iI ((N : Nat) : Int)), .ref (G.2.1 6)] h (fun v h' => ∃ q : Nat, h q = none ∧ v = some (.ref q) ∧ h' q = some (kro G 3 N (va_cpy F (fun _ => none) 0 0 c)) ∧ ∀ b, b ≠ q → h' b = h b) kNo := by
  refine kC_of hl rfl rfl (Nat.le_of_ble_eq_true rfl) (L := [some (.ref ar), some (.int (iI ((N : Nat) : Int))), some (.ref (G.2.1 6)), none]) rfl ?_
  refine k_aload_n (pc1 := 1) dJ7_copyOf_6403c_0 rfl rfl ?_
  refine k_ldcC (pc1 := 3) dJ7_copyOf_6403c_1 rfl cl_RJ7_110 ?_
  refine k_acmp_ne (rx := (some (G.2.1 6))) (ry := (some (G.2.1 6))) dJ7_copyOf_6403c_3 rfl (tgt := 13) rfl (fun c => absurd rfl c) (fun _ => ?_)
  refine k_iload_n (pc1 := 7) dJ7_copyOf_6403c_6 rfl rfl ?_
  refine k_newR 3 (pc1 := 10) (z := ((N : Nat) : Int)) (N := N) dJ7_copyOf_6403c_7 rfl cl_RJ7_2 rfl (by decide) (by omega) (by omega) (by omega) (by omega) (fun q1 hq1 => ?_)
  obtain ⟨h1, eh1⟩ : ∃ z, z = kup h q1 (kro G 3 N (fun _ => none)) := ⟨_, rfl⟩
  refine k_hp (h' := h1) eh1.symm ?_
  have hA1 : h1 q1 = some (kro G 3 N (fun _ => none)) := by rw [eh1]; exact kup_same _ _ _
  have hfr1 : ∀ b, b ≠ q1 → h1 b = h b := fun b hb => by rw [eh1]; exact kup_ne hb
  clear eh1
  have hne1_ar := kne_new hR hq1
  have hC1_ar := (hfr1 _ hne1_ar).trans hR
  refine k_goto dJ7_copyOf_6403c_10 (tgt := 24) rfl ?_
  refine k_astore_n (pc1 := 25) dJ7_copyOf_6403c_24 rfl (by decide) (k_loc (L' := [some (.ref ar), some (.int (iI ((N : Nat) : Int))), some (.ref (G.2.1 6)), some (.ref q1)]) rfl ?_)
  refine k_aload_n (pc1 := 26) dJ7_copyOf_6403c_25 rfl rfl ?_
  refine k_iconst (pc1 := 27) dJ7_copyOf_6403c_26 rfl ?_
  refine k_aload_n (pc1 := 28) dJ7_copyOf_6403c_27 rfl rfl ?_
  refine k_iconst (pc1 := 29) dJ7_copyOf_6403c_28 rfl ?_
  refine k_aload_n (pc1 := 30) dJ7_copyOf_6403c_29 rfl rfl ?_
  refine k_alenR (pc1 := 31) dJ7_copyOf_6403c_30 rfl hC1_ar (j := 3) rfl ?_
  refine k_iload_n (pc1 := 32) dJ7_copyOf_6403c_31 rfl rfl ?_
  refine k_min (a := ((c : Nat) : Int)) (b := ((N : Nat) : Int)) dJ7_copyOf_6403c_32 rfl lk_RJ7_304 (by omega) (by omega) (k8 rfl) ?_
  refine k_val (v' := .int (iI ((c : Nat) : Int))) (congrArg (fun x => Value.int (iI x)) (kI_f (by omega))) ?_
  refine k_copy (pc1 := 38) (sp := 0) (dp := 0) (nn := ((c : Nat) : Int)) dJ7_copyOf_6403c_35 rfl lk_RJ7_150 hC1_ar hA1 (by omega) (by omega) (by omega) (by omega) (by omega) (by omega) (by omega) hci hCo (fun i hi q hq => by have hz : F (0 + i) = some q := hq; rw [Nat.zero_add] at hz; obtain ⟨vs, hv⟩ := hEl i hi q hz; exact ⟨vs, (hfr1 _ (kne_new hv hq1)).trans hv⟩) (k8 rfl) ?_
  obtain ⟨h2, eh2⟩ : ∃ z, z = kup h1 q1 (kro G 3 N (va_cpy F (fun _ => none) 0 0 c)) := ⟨_, rfl⟩
  refine k_hp (h' := h2) eh2.symm ?_
  have hA2 : h2 q1 = some (kro G 3 N (va_cpy F (fun _ => none) 0 0 c)) := by rw [eh2]; exact kup_same _ _ _
  have hfr2 : ∀ b, b ≠ q1 → h2 b = h1 b := fun b hb => by rw [eh2]; exact kup_ne hb
  clear eh2
  have hC2_ar := (hfr2 _ hne1_ar).trans hC1_ar
  refine k_aload_n (pc1 := 39) dJ7_copyOf_6403c_38 rfl rfl ?_
  exact k_aret dJ7_copyOf_6403c_39 rfl (Or.inr ⟨_, rfl⟩) (Or.inr ⟨_, rfl⟩) ⟨q1, hq1, rfl, hA2, fun b hb => (hfr2 b hb).trans (hfr1 b hb)⟩
theorem w_copy2 {l : Launch} {G : kG} {h : kAH} (hl : l.stackTraces = false) {ar c : Nat} {F : Nat → Option Nat} (hR : h ar = some (kro G 3 c F)) (hc : c ≤ 200) {N : Nat} (hN : c ≤ N ∧ N ≤ 200) {ci : Nat} {rc : vw_C} (hci : vwCl[ci]? = some rc) (hCo : (rc.1, "java/lang/Object") ∈ kCas) (hEl : ∀ i : Nat, i < c → ∀ q : Nat, F i = some q → ∃ vs : List Value, h q = some (.inr (ci, vs))) : kC l G m_J7_copyOf_1904c 3 1 200 [.ref ar, .int (iI ((N : Nat) : Int))] h (fun v h' => ∃ q : Nat, h q = none ∧ v = some (.ref q) ∧ h' q = some (kro G 3 N (va_cpy F (fun _ => none) 0 0 c)) ∧ ∀ b, b ≠ q → h' b = h b) kNo := by
  refine kC_of hl rfl rfl (Nat.le_of_ble_eq_true rfl) (L := [some (.ref ar), some (.int (iI ((N : Nat) : Int)))]) rfl ?_
  refine k_aload_n (pc1 := 1) dJ7_copyOf_1904c_0 rfl rfl ?_
  refine k_iload_n (pc1 := 2) dJ7_copyOf_1904c_1 rfl rfl ?_
  refine k_aload_n (pc1 := 3) dJ7_copyOf_1904c_2 rfl rfl ?_
  refine k_getC (pc1 := 6) dJ7_copyOf_1904c_3 rfl lk_RJ7_86 hR (k8 rfl) ?_
  refine k_callS dJ7_copyOf_1904c_6 rfl rfl lk_RJ7_300 o_J7_copyOf_6403c (as := [.ref ar, .int (iI ((N : Nat) : Int)), .ref (G.2.1 6)]) rfl rfl (w_copy3 hl hR hc hN hci hCo hEl) (by decide) (by decide) (Nat.le_refl _) (Nat.le_refl _) (k8 rfl) (fun v h1 hv => ?_) (fun E h1 z => z.elim)
  obtain ⟨q, hq, hv1, hv2, hv3⟩ := hv
  subst hv1
  refine k_st (st' := [.ref q]) rfl ?_
  exact k_aret dJ7_copyOf_1904c_9 rfl (Or.inr ⟨_, rfl⟩) (Or.inr ⟨_, rfl⟩) ⟨q, hq, rfl, hv2, hv3⟩
theorem w_growF {l : Launch} {G : kG} {h : kAH} (hl : l.stackTraces = false) {a ar : Nat} {mc len : Int} (hA : h a = some (.inr (3, [.int (iI mc), .ref ar, .int (iI len)]))) {c : Nat} {F : Nat → Option Nat} (hR : h ar = some (kro G 3 c F)) (hc0 : 1 ≤ c ∧ c ≤ 130) {ci : Nat} {rc : vw_C} (hci : vwCl[ci]? = some rc) (hCo : (rc.1, "java/lang/Object") ∈ kCas) (hEl : ∀ i : Nat, i < c → ∀ q : Nat, F i = some q → ∃ vs : List Value, h q = some (.inr (ci, vs))) : kC l G m_Jx4a65c_grow_92f84 4 1 200 [.ref a, .int (iI (((c : Nat) : Int) + 1))] h (fun v h' => ∃ q c2 : Nat, ∃ F2 : Nat → Option Nat, h q = none ∧ v = some (.ref q) ∧ h' q = some (kro G 3 c2 F2) ∧ (c < c2 ∧ 1 ≤ c2 ∧ c2 ≤ 200) ∧ (∀ i, i < c → F2 i = F i) ∧ h' a = some (.inr (3, [.int (iI mc), .ref q, .int (iI len)])) ∧ ∀ b, b ≠ q → b ≠ a → h' b = h b) kNo := by
  have hc : c ≤ 200 := by omega
  have hkc := kcap_r hc0.2
  refine kC_of hl rfl rfl (Nat.le_of_ble_eq_true rfl) (L := [some (.ref a), some (.int (iI (((c : Nat) : Int) + 1))), none, none]) rfl ?_
  refine k_aload_n (pc1 := 1) dJx4a65c_grow_92f84_0 rfl rfl ?_
  refine k_get (pc1 := 4) dJx4a65c_grow_92f84_1 rfl fd_RJx4a65c_9 hA (v := .ref ar) rfl ?_
  refine k_alenR (pc1 := 5) dJx4a65c_grow_92f84_4 rfl hR (j := 3) rfl ?_
  refine k_istore_n (pc1 := 6) dJx4a65c_grow_92f84_5 rfl (by decide) (k_loc (L' := [some (.ref a), some (.int (iI (((c : Nat) : Int) + 1))), some (.int (iI ((c : Nat) : Int))), none]) rfl ?_)
  refine k_iload_n (pc1 := 7) dJx4a65c_grow_92f84_6 rfl rfl ?_
  refine k_if_gt (a := ((c : Nat) : Int)) dJx4a65c_grow_92f84_7 rfl (tgt := 20) rfl (by omega) (fun c7 : 0 < ((c : Nat) : Int) => ?_) (fun c7 : ((c : Nat) : Int) ≤ 0 => ?_)
  · skip
    refine k_iload_n (pc1 := 21) dJx4a65c_grow_92f84_20 rfl rfl ?_
    refine k_iload_n (pc1 := 22) dJx4a65c_grow_92f84_21 rfl rfl ?_
    refine k_iload_n (pc1 := 23) dJx4a65c_grow_92f84_22 rfl rfl ?_
    refine k_isub (a := (((c : Nat) : Int) + 1)) (b := ((c : Nat) : Int)) (pc1 := 24) dJx4a65c_grow_92f84_23 rfl ?_
    refine k_iload_n (pc1 := 25) dJx4a65c_grow_92f84_24 rfl rfl ?_
    refine k_iconst (pc1 := 26) dJx4a65c_grow_92f84_25 rfl ?_
    refine k_ishr (pc1 := 27) dJx4a65c_grow_92f84_26 rfl (k_val (v' := .int (iI ((c / 2 : Nat) : Int))) (congrArg Value.int (iI_sr1 hc)) ?_)
    refine k_callSP dJx4a65c_grow_92f84_27 rfl lk_RJx4a65c_73 o_J8_newLength_cabcc (w_jnl hl ((c : Nat) : Int) ((((c : Nat) : Int) + 1) - ((c : Nat) : Int)) ((c / 2 : Nat) : Int) ⟨by omega, by omega⟩ ⟨by omega, by omega⟩ ⟨by omega, by omega⟩) (as := [.int (iI ((c : Nat) : Int)), .int (iI ((((c : Nat) : Int) + 1) - ((c : Nat) : Int))), .int (iI ((c / 2 : Nat) : Int))]) rfl rfl rfl (by decide) (by decide) (k8 rfl) ?_
    refine k_val (v' := .int (iI ((kcap c : Nat) : Int))) (congrArg (fun x => Value.int (iI x)) (kcap_eq)) ?_
    refine k_istore_n (pc1 := 31) dJx4a65c_grow_92f84_30 rfl (by decide) (k_loc (L' := [some (.ref a), some (.int (iI (((c : Nat) : Int) + 1))), some (.int (iI ((c : Nat) : Int))), some (.int (iI ((kcap c : Nat) : Int)))]) rfl ?_)
    refine k_aload_n (pc1 := 32) dJx4a65c_grow_92f84_31 rfl rfl ?_
    refine k_aload_n (pc1 := 33) dJx4a65c_grow_92f84_32 rfl rfl ?_
    refine k_get (pc1 := 36) dJx4a65c_grow_92f84_33 rfl fd_RJx4a65c_9 hA (v := .ref ar) rfl ?_
    refine k_iload_n (pc1 := 37) dJx4a65c_grow_92f84_36 rfl rfl ?_
    refine k_callS dJx4a65c_grow_92f84_37 rfl rfl lk_RJx4a65c_66 o_J7_copyOf_1904c (as := [.ref ar, .int (iI ((kcap c : Nat) : Int))]) rfl rfl (w_copy2 hl hR hc (N := kcap c) ⟨by omega, by omega⟩ hci hCo hEl) (by decide) (by decide) (Nat.le_refl _) (Nat.le_refl _) (k8 rfl) (fun v h1 hv => ?_) (fun E h1 z => z.elim)
    obtain ⟨q, hq, hv1, hv2, hv3⟩ := hv
    subst hv1
    refine k_st (st' := [.ref q, .ref a]) rfl ?_
    have hna := kne_new hA hq
    have hA1 := (hv3 _ hna).trans hA
    refine k_dup_x1 (pc1 := 41) dJx4a65c_grow_92f84_40 rfl rfl rfl ?_
    refine k_put (pc1 := 44) dJx4a65c_grow_92f84_41 rfl fp_RJx4a65c_9 (Or.inl rfl) hA1 (Nat.le_of_ble_eq_true rfl) rfl rfl ?_
    obtain ⟨h3, eh3⟩ : ∃ z, z = kup h1 a (.inr (3, [.int (iI mc), .ref q, .int (iI len)])) := ⟨_, rfl⟩
    refine k_hp (h' := h3) eh3.symm ?_
    have hA3 : h3 a = some (.inr (3, [.int (iI mc), .ref q, .int (iI len)])) := by rw [eh3]; exact kup_same _ _ _
    have hfr3 : ∀ b, b ≠ a → h3 b = h1 b := fun b hb => by rw [eh3]; exact kup_ne hb
    clear eh3
    have hC3_q := (hfr3 _ (Ne.symm hna)).trans hv2
    exact k_aret dJx4a65c_grow_92f84_44 rfl (Or.inr ⟨_, rfl⟩) (Or.inr ⟨_, rfl⟩) ⟨q, kcap c, _, hq, rfl, hC3_q, ⟨by omega, by omega, by omega⟩, (fun i hi => (if_pos ⟨Nat.zero_le _, by omega⟩).trans (by rw [Nat.sub_zero, Nat.zero_add])), hA3, fun b hb hb2 => (hfr3 b hb2).trans (hv3 b hb)⟩
  · skip
    exfalso; omega
theorem w_growE {l : Launch} {G : kG} {h : kAH} (hl : l.stackTraces = false) {a : Nat} {mc len : Int} (hA : h a = some (.inr (3, [.int (iI mc), .ref G.2.2.2, .int (iI len)]))) : kC l G m_Jx4a65c_grow_92f84 4 1 200 [.ref a, .int (iI 1)] h (fun v h' => ∃ q c2 : Nat, ∃ F2 : Nat → Option Nat, h q = none ∧ v = some (.ref q) ∧ h' q = some (kro G 3 c2 F2) ∧ (0 < c2 ∧ 1 ≤ c2 ∧ c2 ≤ 200) ∧ (∀ i, i < 0 → F2 i = none) ∧ h' a = some (.inr (3, [.int (iI mc), .ref q, .int (iI len)])) ∧ ∀ b, b ≠ q → b ≠ a → h' b = h b) kNo := by
  refine kC_of hl rfl rfl (Nat.le_of_ble_eq_true rfl) (L := [some (.ref a), some (.int (iI 1)), none, none]) rfl ?_
  refine k_aload_n (pc1 := 1) dJx4a65c_grow_92f84_0 rfl rfl ?_
  refine k_get (pc1 := 4) dJx4a65c_grow_92f84_1 rfl fd_RJx4a65c_9 hA (v := .ref G.2.2.2) rfl ?_
  refine k_alenE (pc1 := 5) dJx4a65c_grow_92f84_4 rfl ?_
  refine k_istore_n (pc1 := 6) dJx4a65c_grow_92f84_5 rfl (by decide) (k_loc (L' := [some (.ref a), some (.int (iI 1)), some (.int (iI 0)), none]) rfl ?_)
  refine k_iload_n (pc1 := 7) dJx4a65c_grow_92f84_6 rfl rfl ?_
  refine k_if_gt (a := 0) dJx4a65c_grow_92f84_7 rfl (tgt := 20) rfl (by decide) (fun c => absurd c (by decide)) (fun _ => ?_)
  refine k_aload_n (pc1 := 11) dJx4a65c_grow_92f84_10 rfl rfl ?_
  refine k_get (pc1 := 14) dJx4a65c_grow_92f84_11 rfl fd_RJx4a65c_9 hA (v := .ref G.2.2.2) rfl ?_
  refine k_gets (pc1 := 17) dJx4a65c_grow_92f84_14 rfl gs_list ?_
  refine k_acmp_eq (rx := (some G.2.2.2)) (ry := (some G.2.2.2)) dJx4a65c_grow_92f84_17 rfl (tgt := 45) rfl (fun _ => ?_) (fun c => absurd rfl c)
  refine k_aload_n (pc1 := 46) dJx4a65c_grow_92f84_45 rfl rfl ?_
  refine k_bipush 10 (pc1 := 48) dJx4a65c_grow_92f84_46 rfl (by decide) ?_
  refine k_iload_n (pc1 := 49) dJx4a65c_grow_92f84_48 rfl rfl ?_
  refine k_max (a := 10) (b := 1) dJx4a65c_grow_92f84_49 rfl lk_RJx4a65c_79 (by decide) (by decide) (k8 rfl) ?_
  refine k_val (v' := .int (iI 10)) (congrArg (fun x => Value.int (iI x)) (kI_f (by decide))) ?_
  refine k_newR 3 (pc1 := 55) (z := 10) (N := 10) dJx4a65c_grow_92f84_52 rfl cl_RJx4a65c_7 rfl (by decide) rfl (by decide) (by omega) (by omega) (fun q4 hq4 => ?_)
  obtain ⟨h4, eh4⟩ : ∃ z, z = kup h q4 (kro G 3 10 (fun _ => none)) := ⟨_, rfl⟩
  refine k_hp (h' := h4) eh4.symm ?_
  have hA4 : h4 q4 = some (kro G 3 10 (fun _ => none)) := by rw [eh4]; exact kup_same _ _ _
  have hfr4 : ∀ b, b ≠ q4 → h4 b = h b := fun b hb => by rw [eh4]; exact kup_ne hb
  clear eh4
  have hne4_a := kne_new hA hq4
  have hC4_a := (hfr4 _ hne4_a).trans hA
  refine k_dup_x1 (pc1 := 56) dJx4a65c_grow_92f84_55 rfl rfl rfl ?_
  refine k_put (pc1 := 59) dJx4a65c_grow_92f84_56 rfl fp_RJx4a65c_9 (Or.inl rfl) hC4_a (Nat.le_of_ble_eq_true rfl) rfl rfl ?_
  obtain ⟨h5, eh5⟩ : ∃ z, z = kup h4 a (.inr (3, [.int (iI mc), .ref q4, .int (iI len)])) := ⟨_, rfl⟩
  refine k_hp (h' := h5) eh5.symm ?_
  have hA5 : h5 a = some (.inr (3, [.int (iI mc), .ref q4, .int (iI len)])) := by rw [eh5]; exact kup_same _ _ _
  have hfr5 : ∀ b, b ≠ a → h5 b = h4 b := fun b hb => by rw [eh5]; exact kup_ne hb
  clear eh5
  have hC5_q4 := (hfr5 _ (Ne.symm hne4_a)).trans hA4
  exact k_aret dJx4a65c_grow_92f84_59 rfl (Or.inr ⟨_, rfl⟩) (Or.inr ⟨_, rfl⟩) ⟨q4, 10, _, hq4, rfl, hC5_q4, ⟨by omega, by omega, by omega⟩, (fun i hi => absurd hi (by omega)), hA5, fun b hb hb2 => (hfr5 b hb2).trans (hfr4 b hb)⟩
