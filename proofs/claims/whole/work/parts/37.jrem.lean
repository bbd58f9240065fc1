/-! ===== the JDK: remove at a place ===== -/
theorem w_lfr {l : Launch} {G : kG} {h : kAH} (hl : l.stackTraces = false) {a ar s : Nat} {mc : Int} (hA : h a = some (.inr (3, [.int (iI mc), .ref ar, .int (iI ((s : Nat) : Int))]))) {i c : Nat} {F : Nat → Option Nat} (hR : h ar = some (kro G 3 c F)) (hc : c ≤ 200) (hs : s ≤ c) (hi : i < s) {ci : Nat} {rc : vw_C} (hci : vwCl[ci]? = some rc) (hCo : (rc.1, "java/lang/Object") ∈ kCas) (hc3 : ci ≠ 3) (hEl : ∀ j : Nat, j < s → ∀ q : Nat, F j = some q → ∃ vs : List Value, h q = some (.inr (ci, vs))) : kC l G m_Jx4a65c_fastRemove_b59b0 1 0 0 [.ref a, .ref ar, .int (iI ((i : Nat) : Int))] h (fun v h' => v = none ∧ (∃ F3 : Nat → Option Nat, h' ar = some (kro G 3 c F3) ∧ ∀ j : Nat, j < s - 1 → F3 j = if j < i then F j else F (j + 1)) ∧ (∃ mc2 : Int, h' a = some (.inr (3, [.int (iI mc2), .ref ar, .int (iI ((s - 1 : Nat) : Int))]))) ∧ ∀ b, b ≠ a → b ≠ ar → h' b = h b) kNo := by
  refine kC_of hl rfl rfl (Nat.le_of_ble_eq_true rfl) (L := [some (.ref a), some (.ref ar), some (.int (iI ((i : Nat) : Int))), none]) rfl ?_
  refine k_aload_n (pc1 := 1) dJx4a65c_fastRemove_b59b0_0 rfl rfl ?_
  refine k_dup (pc1 := 2) dJx4a65c_fastRemove_b59b0_1 rfl rfl ?_
  refine k_get (pc1 := 5) dJx4a65c_fastRemove_b59b0_2 rfl fd_RJx4a65c_63 hA (v := .int (iI mc)) rfl ?_
  refine k_iconst (pc1 := 6) dJx4a65c_fastRemove_b59b0_5 rfl ?_
  refine k_iadd (a := mc) (b := 1) (pc1 := 7) dJx4a65c_fastRemove_b59b0_6 rfl ?_
  refine k_put (pc1 := 10) dJx4a65c_fastRemove_b59b0_7 rfl fp_RJx4a65c_63 (Or.inl rfl) hA (Nat.le_of_ble_eq_true rfl) rfl rfl ?_
  obtain ⟨h27, eh27⟩ : ∃ z, z = kup h a (.inr (3, [.int (iI (mc + 1)), .ref ar, .int (iI ((s : Nat) : Int))])) := ⟨_, rfl⟩
  refine k_hp (h' := h27) eh27.symm ?_
  have hA27 : h27 a = some (.inr (3, [.int (iI (mc + 1)), .ref ar, .int (iI ((s : Nat) : Int))])) := by rw [eh27]; exact kup_same _ _ _
  have hfr27 : ∀ b, b ≠ a → h27 b = h b := fun b hb => by rw [eh27]; exact kup_ne hb
  clear eh27
  have hC27_ar := (hfr27 _ (kne_ro hR hA)).trans hR
  refine k_aload_n (pc1 := 11) dJx4a65c_fastRemove_b59b0_10 rfl rfl ?_
  refine k_get (pc1 := 14) dJx4a65c_fastRemove_b59b0_11 rfl fd_RJx4a65c_48 hA27 (v := .int (iI ((s : Nat) : Int))) rfl ?_
  refine k_iconst (pc1 := 15) dJx4a65c_fastRemove_b59b0_14 rfl ?_
  refine k_isub (a := ((s : Nat) : Int)) (b := 1) (pc1 := 16) dJx4a65c_fastRemove_b59b0_15 rfl ?_
  refine k_val (v' := .int (iI ((s - 1 : Nat) : Int))) (congrArg (fun z => Value.int (iI z)) (by omega)) ?_
  refine k_dup (pc1 := 17) dJx4a65c_fastRemove_b59b0_16 rfl rfl ?_
  refine k_istore_n (pc1 := 18) dJx4a65c_fastRemove_b59b0_17 rfl (by decide) (k_loc (L' := [some (.ref a), some (.ref ar), some (.int (iI ((i : Nat) : Int))), some (.int (iI ((s - 1 : Nat) : Int)))]) rfl ?_)
  refine k_iload_n (pc1 := 19) dJx4a65c_fastRemove_b59b0_18 rfl rfl ?_
  refine k_icmp_le (a := ((s - 1 : Nat) : Int)) (b := ((i : Nat) : Int)) dJx4a65c_fastRemove_b59b0_19 rfl (tgt := 34) rfl (by omega) (by omega) (fun c19 : ((s - 1 : Nat) : Int) ≤ ((i : Nat) : Int) => ?_) (fun c19 : ((i : Nat) : Int) < ((s - 1 : Nat) : Int) => ?_)
  · skip
    refine k_aload_n (pc1 := 35) dJx4a65c_fastRemove_b59b0_34 rfl rfl ?_
    refine k_aload_n (pc1 := 36) dJx4a65c_fastRemove_b59b0_35 rfl rfl ?_
    refine k_iload_n (pc1 := 37) dJx4a65c_fastRemove_b59b0_36 rfl rfl ?_
    refine k_dup_x1 (pc1 := 38) dJx4a65c_fastRemove_b59b0_37 rfl rfl rfl ?_
    refine k_put (pc1 := 41) dJx4a65c_fastRemove_b59b0_38 rfl fp_RJx4a65c_48 (Or.inl rfl) hA27 (Nat.le_of_ble_eq_true rfl) rfl rfl ?_
    obtain ⟨h28, eh28⟩ : ∃ z, z = kup h27 a (.inr (3, [.int (iI (mc + 1)), .ref ar, .int (iI ((s - 1 : Nat) : Int))])) := ⟨_, rfl⟩
    refine k_hp (h' := h28) eh28.symm ?_
    have hA28 : h28 a = some (.inr (3, [.int (iI (mc + 1)), .ref ar, .int (iI ((s - 1 : Nat) : Int))])) := by rw [eh28]; exact kup_same _ _ _
    have hfr28 : ∀ b, b ≠ a → h28 b = h27 b := fun b hb => by rw [eh28]; exact kup_ne hb
    clear eh28
    have hC28_ar := (hfr28 _ (kne_ro hC27_ar hA27)).trans hC27_ar
    refine k_null (pc1 := 42) dJx4a65c_fastRemove_b59b0_41 rfl ?_
    refine k_aastN (i := ((s - 1 : Nat) : Int)) (pc1 := 43) dJx4a65c_fastRemove_b59b0_42 rfl hC28_ar (j := 3) rfl (by omega) (by omega) (by omega) ?_
    obtain ⟨h29, eh29⟩ : ∃ z, z = kup h28 ar (kro G 3 c (va_up F (s - 1) none)) := ⟨_, rfl⟩
    refine k_hp (h' := h29) eh29.symm ?_
    have hA29 : h29 ar = some (kro G 3 c (va_up F (s - 1) none)) := by rw [eh29]; exact kup_same _ _ _
    have hfr29 : ∀ b, b ≠ ar → h29 b = h28 b := fun b hb => by rw [eh29]; exact kup_ne hb
    clear eh29
    have hC29_a := (hfr29 _ (kne_or hA28 hC28_ar)).trans hA28
    refine k_vret dJx4a65c_fastRemove_b59b0_43 rfl ⟨rfl, ⟨_, hA29, fun j hj => ?_⟩, ⟨mc + 1, hC29_a⟩, fun b hb hb2 => (hfr29 b hb2).trans ((hfr28 b hb).trans (hfr27 b hb))⟩
    · unfold va_up
      rw [if_neg (by omega), if_pos (by omega)]
  · skip
    refine k_aload_n (pc1 := 23) dJx4a65c_fastRemove_b59b0_22 rfl rfl ?_
    refine k_iload_n (pc1 := 24) dJx4a65c_fastRemove_b59b0_23 rfl rfl ?_
    refine k_iconst (pc1 := 25) dJx4a65c_fastRemove_b59b0_24 rfl ?_
    refine k_iadd (a := ((i : Nat) : Int)) (b := 1) (pc1 := 26) dJx4a65c_fastRemove_b59b0_25 rfl ?_
    refine k_aload_n (pc1 := 27) dJx4a65c_fastRemove_b59b0_26 rfl rfl ?_
    refine k_iload_n (pc1 := 28) dJx4a65c_fastRemove_b59b0_27 rfl rfl ?_
    refine k_iload_n (pc1 := 29) dJx4a65c_fastRemove_b59b0_28 rfl rfl ?_
    refine k_iload_n (pc1 := 30) dJx4a65c_fastRemove_b59b0_29 rfl rfl ?_
    refine k_isub (a := ((s - 1 : Nat) : Int)) (b := ((i : Nat) : Int)) (pc1 := 31) dJx4a65c_fastRemove_b59b0_30 rfl ?_
    refine k_val (v' := .int (iI ((s - 1 - i : Nat) : Int))) (congrArg (fun z => Value.int (iI z)) (by omega)) ?_
    refine k_st (st' := [.int (iI ((s - 1 - i : Nat) : Int)), .int (iI ((i : Nat) : Int)), .ref ar, .int (iI ((i + 1 : Nat) : Int)), .ref ar]) rfl ?_
    have hEl1 : ∀ j : Nat, j < s → ∀ q : Nat, F j = some q → ∃ vs : List Value, h27 q = some (.inr (ci, vs)) := fun j hj q hq => by
      obtain ⟨vs, hv⟩ := hEl j hj q hq
      exact ⟨vs, (hfr27 _ (kne_ci hv hA hc3)).trans hv⟩
    refine k_copy (pc1 := 34) (sp := ((i + 1 : Nat) : Int)) (dp := ((i : Nat) : Int)) (nn := ((s - 1 - i : Nat) : Int)) dJx4a65c_fastRemove_b59b0_31 rfl lk_RJx4a65c_112 hC27_ar hC27_ar (by omega) (by omega) (by omega) (by omega) (by omega) (by omega) (by omega) hci hCo (fun j hj q hq => hEl1 (i + 1 + j) (by have z : j < s - 1 - i := hj; omega) q hq) (k8 rfl) ?_
    obtain ⟨h30, eh30⟩ : ∃ z, z = kup h27 ar (kro G 3 c (va_cpy F F (i + 1) i (s - 1 - i))) := ⟨_, rfl⟩
    refine k_hp (h' := h30) eh30.symm ?_
    have hA30 : h30 ar = some (kro G 3 c (va_cpy F F (i + 1) i (s - 1 - i))) := by rw [eh30]; exact kup_same _ _ _
    have hfr30 : ∀ b, b ≠ ar → h30 b = h27 b := fun b hb => by rw [eh30]; exact kup_ne hb
    clear eh30
    have hC30_a := (hfr30 _ (kne_or hA27 hC27_ar)).trans hA27
    refine k_aload_n (pc1 := 35) dJx4a65c_fastRemove_b59b0_34 rfl rfl ?_
    refine k_aload_n (pc1 := 36) dJx4a65c_fastRemove_b59b0_35 rfl rfl ?_
    refine k_iload_n (pc1 := 37) dJx4a65c_fastRemove_b59b0_36 rfl rfl ?_
    refine k_dup_x1 (pc1 := 38) dJx4a65c_fastRemove_b59b0_37 rfl rfl rfl ?_
    refine k_put (pc1 := 41) dJx4a65c_fastRemove_b59b0_38 rfl fp_RJx4a65c_48 (Or.inl rfl) hC30_a (Nat.le_of_ble_eq_true rfl) rfl rfl ?_
    obtain ⟨h31, eh31⟩ : ∃ z, z = kup h30 a (.inr (3, [.int (iI (mc + 1)), .ref ar, .int (iI ((s - 1 : Nat) : Int))])) := ⟨_, rfl⟩
    refine k_hp (h' := h31) eh31.symm ?_
    have hA31 : h31 a = some (.inr (3, [.int (iI (mc + 1)), .ref ar, .int (iI ((s - 1 : Nat) : Int))])) := by rw [eh31]; exact kup_same _ _ _
    have hfr31 : ∀ b, b ≠ a → h31 b = h30 b := fun b hb => by rw [eh31]; exact kup_ne hb
    clear eh31
    have hC31_ar := (hfr31 _ (kne_ro hA30 hC30_a)).trans hA30
    refine k_null (pc1 := 42) dJx4a65c_fastRemove_b59b0_41 rfl ?_
    refine k_aastN (i := ((s - 1 : Nat) : Int)) (pc1 := 43) dJx4a65c_fastRemove_b59b0_42 rfl hC31_ar (j := 3) rfl (by omega) (by omega) (by omega) ?_
    obtain ⟨h32, eh32⟩ : ∃ z, z = kup h31 ar (kro G 3 c (va_up (va_cpy F F (i + 1) i (s - 1 - i)) (s - 1) none)) := ⟨_, rfl⟩
    refine k_hp (h' := h32) eh32.symm ?_
    have hA32 : h32 ar = some (kro G 3 c (va_up (va_cpy F F (i + 1) i (s - 1 - i)) (s - 1) none)) := by rw [eh32]; exact kup_same _ _ _
    have hfr32 : ∀ b, b ≠ ar → h32 b = h31 b := fun b hb => by rw [eh32]; exact kup_ne hb
    clear eh32
    have hC32_a := (hfr32 _ (kne_or hA31 hC31_ar)).trans hA31
    refine k_vret dJx4a65c_fastRemove_b59b0_43 rfl ⟨rfl, ⟨_, hA32, fun j hj => ?_⟩, ⟨mc + 1, hC32_a⟩, fun b hb hb2 => (hfr32 b hb2).trans ((hfr31 b hb).trans ((hfr30 b hb2).trans (hfr27 b hb)))⟩
    · unfold va_up va_cpy
      rw [if_neg (by omega)]
      by_cases z : j < i
      · rw [if_neg (by omega), if_pos z]
      · rw [if_pos (by omega), if_neg z, show i + 1 + (j - i) = j + 1 by omega]
theorem w_rem1 {l : Launch} {G : kG} {h : kAH} (hl : l.stackTraces = false) {a ar c i : Nat} {mc : Int} {xs : List Nat} {F : Nat → Option Nat} (hA : h a = some (.inr (3, [.int (iI mc), .ref ar, .int (iI ((xs.length : Nat) : Int))]))) (g1 : 1 ≤ c) (g2 : c ≤ 200) (hR : h ar = some (kro G 3 c F)) (g3 : xs.length ≤ c) (g4 : ∀ i : Nat, i < xs.length → F i = xs[i]?) (hi : i < xs.length) {ci : Nat} {rc : vw_C} (hci : vwCl[ci]? = some rc) (hCo : (rc.1, "java/lang/Object") ∈ kCas) (hc3 : ci ≠ 3) (hEs : ∀ y ∈ xs, ∃ vs : List Value, h y = some (.inr (ci, vs))) {x : Nat} (hx : xs[i]? = some x) : kC l G m_Jx4a65c_remove_915e3 3 0 0 [.ref a, .int (iI ((i : Nat) : Int))] h (fun v h' => v = some (.ref x) ∧ kLx G h a ar (xs.eraseIdx i) h') kNo := by
  refine kC_of hl rfl rfl (Nat.le_of_ble_eq_true rfl) (L := [some (.ref a), some (.int (iI ((i : Nat) : Int))), none, none]) rfl ?_
  refine k_iload_n (pc1 := 1) dJx4a65c_remove_915e3_0 rfl rfl ?_
  refine k_aload_n (pc1 := 2) dJx4a65c_remove_915e3_1 rfl rfl ?_
  refine k_get (pc1 := 5) dJx4a65c_remove_915e3_2 rfl fd_RJx4a65c_48 hA (v := .int (iI ((xs.length : Nat) : Int))) rfl ?_
  refine k_callSP dJx4a65c_remove_915e3_5 rfl lk_RJx4a65c_118 o_J15_checkIndex_7cf53 (w_jci2 hl ((i : Nat) : Int) ((xs.length : Nat) : Int) ⟨by omega, by omega⟩ (by omega)) (as := [.int (iI ((i : Nat) : Int)), .int (iI ((xs.length : Nat) : Int))]) rfl rfl rfl (by decide) (by decide) (k8 rfl) ?_
  refine k_pop (pc1 := 9) dJx4a65c_remove_915e3_8 rfl rfl ?_
  refine k_aload_n (pc1 := 10) dJx4a65c_remove_915e3_9 rfl rfl ?_
  refine k_get (pc1 := 13) dJx4a65c_remove_915e3_10 rfl fd_RJx4a65c_9 hA (v := .ref ar) rfl ?_
  refine k_astore_n (pc1 := 14) dJx4a65c_remove_915e3_13 rfl (by decide) (k_loc (L' := [some (.ref a), some (.int (iI ((i : Nat) : Int))), some (.ref ar), none]) rfl ?_)
  refine k_aload_n (pc1 := 15) dJx4a65c_remove_915e3_14 rfl rfl ?_
  refine k_iload_n (pc1 := 16) dJx4a65c_remove_915e3_15 rfl rfl ?_
  refine k_aald (i := ((i : Nat) : Int)) (pc1 := 17) dJx4a65c_remove_915e3_16 rfl hR (j := 3) rfl (by omega) (by omega) (by omega) (k_val (v' := .ref x) (congrArg va_rf ((g4 i hi).trans hx)) ?_)
  refine k_astore_n (pc1 := 18) dJx4a65c_remove_915e3_17 rfl (by decide) (k_loc (L' := [some (.ref a), some (.int (iI ((i : Nat) : Int))), some (.ref ar), some (.ref x)]) rfl ?_)
  refine k_aload_n (pc1 := 19) dJx4a65c_remove_915e3_18 rfl rfl ?_
  refine k_aload_n (pc1 := 20) dJx4a65c_remove_915e3_19 rfl rfl ?_
  refine k_iload_n (pc1 := 21) dJx4a65c_remove_915e3_20 rfl rfl ?_
  have hEl : ∀ j : Nat, j < xs.length → ∀ q : Nat, F j = some q → ∃ vs : List Value, h q = some (.inr (ci, vs)) := fun j hj q hq => hEs q (List.mem_of_getElem? ((g4 j hj).symm.trans hq))
  refine k_callV dJx4a65c_remove_915e3_21 rfl lk_RJx4a65c_144 o_Jx4a65c_fastRemove_b59b0 (as := [.ref ar, .int (iI ((i : Nat) : Int))]) rfl rfl hA rfl rfl (w_lfr hl hA hR g2 g3 hi hci hCo hc3 hEl) (by decide) (by decide) (by decide) (by decide) (k8 rfl) (fun v h9 hv => ?_) (fun E h9 z => z.elim)
  obtain ⟨hv1, ⟨F3, hv2, hv3⟩, ⟨mc2, hv4⟩, hv5⟩ := hv
  subst hv1
  refine k_st (st' := []) rfl ?_
  refine k_aload_n (pc1 := 25) dJx4a65c_remove_915e3_24 rfl rfl ?_
  refine k_aret dJx4a65c_remove_915e3_25 rfl (Or.inl ⟨_, rfl⟩) (Or.inr ⟨_, rfl⟩) ⟨rfl, ar, c, ⟨⟨mc2, ?_⟩, Or.inr ⟨g1, g2, F3, hv2, ?_, ?_⟩⟩, Or.inl rfl, fun b hb hb2 _ => hv5 b hb hb2⟩
  · rw [List.length_eraseIdx, if_pos hi]; exact hv4
  · rw [List.length_eraseIdx, if_pos hi]; omega
  · exact kLs_del hi g4 hv3
theorem w_lrem {l : Launch} {G : kG} {h : kAH} (hl : l.stackTraces = false) {a ar c i : Nat} {xs : List Nat} (hS : kLs G h a ar c xs) (hi : i < xs.length) {ci : Nat} {rc : vw_C} (hci : vwCl[ci]? = some rc) (hCo : (rc.1, "java/lang/Object") ∈ kCas) (hc3 : ci ≠ 3) (hEs : ∀ y ∈ xs, ∃ vs : List Value, h y = some (.inr (ci, vs))) {x : Nat} (hx : xs[i]? = some x) : kC l G m_Jx4a65c_remove_915e3 3 0 0 [.ref a, .int (iI ((i : Nat) : Int))] h (fun v h' => v = some (.ref x) ∧ kLx G h a ar (xs.eraseIdx i) h') kNo := by
  obtain ⟨⟨mc, hA⟩, h2⟩ := hS
  rcases h2 with ⟨e1, e2, -⟩ | ⟨g1, g2, F, hR, g3, g4⟩
  · subst e2
    exact absurd hi (Nat.not_lt_zero i)
  · exact w_rem1 hl hA g1 g2 hR g3 g4 hi hci hCo hc3 hEs hx

