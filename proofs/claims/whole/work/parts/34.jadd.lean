/-! ===== the JDK: add, remove, walked ===== -/
theorem w_grow1F {l : Launch} {G : kG} {h : kAH} (hl : l.stackTraces = false) {a ar : Nat} {c : Nat} {mc : Int} (hA : h a = some (.inr (3, [.int (iI mc), .ref ar, .int (iI ((c : Nat) : Int))]))) {F : Nat → Option Nat} (hR : h ar = some (kro G 3 c F)) (hc0 : 1 ≤ c ∧ c ≤ 130) {ci : Nat} {rc : vw_C} (hci : vwCl[ci]? = some rc) (hCo : (rc.1, "java/lang/Object") ∈ kCas) (hEl : ∀ i : Nat, i < c → ∀ q : Nat, F i = some q → ∃ vs : List Value, h q = some (.inr (ci, vs))) : kC l G m_Jx4a65c_grow_d5877 5 1 200 [.ref a] h (fun v h' => ∃ q c2 : Nat, ∃ F2 : Nat → Option Nat, h q = none ∧ v = some (.ref q) ∧ h' q = some (kro G 3 c2 F2) ∧ (c < c2 ∧ 1 ≤ c2 ∧ c2 ≤ 200) ∧ (∀ i, i < c → F2 i = F i) ∧ h' a = some (.inr (3, [.int (iI mc), .ref q, .int (iI ((c : Nat) : Int))])) ∧ ∀ b, b ≠ q → b ≠ a → h' b = h b) kNo := by
  refine kC_of hl rfl rfl (Nat.le_of_ble_eq_true rfl) (L := [some (.ref a)]) rfl ?_
  refine k_aload_n (pc1 := 1) dJx4a65c_grow_d5877_0 rfl rfl ?_
  refine k_aload_n (pc1 := 2) dJx4a65c_grow_d5877_1 rfl rfl ?_
  refine k_get (pc1 := 5) dJx4a65c_grow_d5877_2 rfl fd_RJx4a65c_48 hA (v := .int (iI ((c : Nat) : Int))) rfl ?_
  refine k_iconst (pc1 := 6) dJx4a65c_grow_d5877_5 rfl ?_
  refine k_iadd (a := ((c : Nat) : Int)) (b := 1) (pc1 := 7) dJx4a65c_grow_d5877_6 rfl ?_
  refine k_callV dJx4a65c_grow_d5877_7 rfl lk_RJx4a65c_69 o_Jx4a65c_grow_92f84 (as := [.int (iI (((c : Nat) : Int) + 1))]) rfl rfl hA rfl rfl (w_growF hl hA hR hc0 hci hCo hEl) (by decide) (by decide) (by decide) (by decide) (k8 rfl) (fun v h9 hv => ?_) (fun E h9 z => z.elim)
  obtain ⟨q, c2, F2, hq, hv1, hv2, hv3, hv4, hv5, hv6⟩ := hv
  subst hv1
  refine k_st (st' := [.ref q]) rfl ?_
  have hna : a ≠ q := kne_new hA hq
  exact k_aret dJx4a65c_grow_d5877_10 rfl (Or.inr ⟨_, rfl⟩) (Or.inr ⟨_, rfl⟩) ⟨q, c2, F2, hq, rfl, hv2, hv3, hv4, hv5, hv6⟩
theorem w_grow1E {l : Launch} {G : kG} {h : kAH} (hl : l.stackTraces = false) {a : Nat} {mc : Int} (hA : h a = some (.inr (3, [.int (iI mc), .ref G.2.2.2, .int (iI 0)]))) : kC l G m_Jx4a65c_grow_d5877 5 1 200 [.ref a] h (fun v h' => ∃ q c2 : Nat, ∃ F2 : Nat → Option Nat, h q = none ∧ v = some (.ref q) ∧ h' q = some (kro G 3 c2 F2) ∧ (0 < c2 ∧ 1 ≤ c2 ∧ c2 ≤ 200) ∧ (∀ i, i < 0 → F2 i = none) ∧ h' a = some (.inr (3, [.int (iI mc), .ref q, .int (iI 0)])) ∧ ∀ b, b ≠ q → b ≠ a → h' b = h b) kNo := by
  refine kC_of hl rfl rfl (Nat.le_of_ble_eq_true rfl) (L := [some (.ref a)]) rfl ?_
  refine k_aload_n (pc1 := 1) dJx4a65c_grow_d5877_0 rfl rfl ?_
  refine k_aload_n (pc1 := 2) dJx4a65c_grow_d5877_1 rfl rfl ?_
  refine k_get (pc1 := 5) dJx4a65c_grow_d5877_2 rfl fd_RJx4a65c_48 hA (v := .int (iI 0)) rfl ?_
  refine k_iconst (pc1 := 6) dJx4a65c_grow_d5877_5 rfl ?_
  refine k_iadd (a := 0) (b := 1) (pc1 := 7) dJx4a65c_grow_d5877_6 rfl ?_
  refine k_callV dJx4a65c_grow_d5877_7 rfl lk_RJx4a65c_69 o_Jx4a65c_grow_92f84 (as := [.int (iI (0 + 1))]) rfl rfl hA rfl rfl (w_growE hl hA) (by decide) (by decide) (by decide) (by decide) (k8 rfl) (fun v h9 hv => ?_) (fun E h9 z => z.elim)
  obtain ⟨q, c2, F2, hq, hv1, hv2, hv3, hv4, hv5, hv6⟩ := hv
  subst hv1
  refine k_st (st' := [.ref q]) rfl ?_
  have hna : a ≠ q := kne_new hA hq
  exact k_aret dJx4a65c_grow_d5877_10 rfl (Or.inr ⟨_, rfl⟩) (Or.inr ⟨_, rfl⟩) ⟨q, c2, F2, hq, rfl, hv2, hv3, hv4, hv5, hv6⟩
theorem w_add3N {l : Launch} {G : kG} {h : kAH} (hl : l.stackTraces = false) {a ar s : Nat} {mc : Int} (hA : h a = some (.inr (3, [.int (iI mc), .ref ar, .int (iI ((s : Nat) : Int))]))) {c : Nat} {F : Nat → Option Nat} (hR : h ar = some (kro G 3 c F)) (hc : c ≤ 200) (hs : s < c) {ci : Nat} {rc : vw_C} (hci : vwCl[ci]? = some rc) (hCo : (rc.1, "java/lang/Object") ∈ kCas) {x : Nat} {vs : List Value} (hX : h x = some (.inr (ci, vs))) (hxa : x ≠ a) : kC l G m_Jx4a65c_add_72be8 6 1 200 [.ref a, .ref x, .ref ar, .int (iI ((s : Nat) : Int))] h (fun v h' => ∃ q c2 : Nat, ∃ F2 : Nat → Option Nat, v = none ∧ (q = ar ∨ h q = none) ∧ h' q = some (kro G 3 c2 F2) ∧ (s < c2 ∧ c2 ≤ 200) ∧ F2 s = some x ∧ (∀ i, i < s → F2 i = F i) ∧ (∃ mc2 : Int, h' a = some (.inr (3, [.int (iI mc2), .ref q, .int (iI (((s + 1 : Nat) : Nat) : Int))]))) ∧ ∀ b, b ≠ q → b ≠ a → h' b = h b) kNo := by
  refine kC_of hl rfl rfl (Nat.le_of_ble_eq_true rfl) (L := [some (.ref a), some (.ref x), some (.ref ar), some (.int (iI ((s : Nat) : Int)))]) rfl ?_
  refine k_iload_n (pc1 := 1) dJx4a65c_add_72be8_0 rfl rfl ?_
  refine k_aload_n (pc1 := 2) dJx4a65c_add_72be8_1 rfl rfl ?_
  refine k_alenR (pc1 := 3) dJx4a65c_add_72be8_2 rfl hR (j := 3) rfl ?_
  refine k_icmp_ne (a := ((s : Nat) : Int)) (b := ((c : Nat) : Int)) dJx4a65c_add_72be8_3 rfl (tgt := 11) rfl (by omega) (by omega) (fun c3 : ((s : Nat) : Int) ≠ ((c : Nat) : Int) => ?_) (fun c3 : ((s : Nat) : Int) = ((c : Nat) : Int) => by exfalso; omega)
  refine k_aload_n (pc1 := 12) dJx4a65c_add_72be8_11 rfl rfl ?_
  refine k_iload_n (pc1 := 13) dJx4a65c_add_72be8_12 rfl rfl ?_
  refine k_aload_n (pc1 := 14) dJx4a65c_add_72be8_13 rfl rfl ?_
  refine k_aast (i := ((s : Nat) : Int)) (pc1 := 15) dJx4a65c_add_72be8_14 rfl hR (j := 3) rfl hX hci (Or.inr hCo) (by omega) (by omega) (by omega) ?_
  obtain ⟨h6, eh6⟩ : ∃ z, z = kup h ar (kro G 3 c (va_up F s (some x))) := ⟨_, rfl⟩
  refine k_hp (h' := h6) eh6.symm ?_
  have hA6 : h6 ar = some (kro G 3 c (va_up F s (some x))) := by rw [eh6]; exact kup_same _ _ _
  have hfr6 : ∀ b, b ≠ ar → h6 b = h b := fun b hb => by rw [eh6]; exact kup_ne hb
  clear eh6
  have hC6_a := (hfr6 _ (kne_or hA hR)).trans hA
  have hC6_x := (hfr6 _ (kne_or hX hR)).trans hX
  refine k_aload_n (pc1 := 16) dJx4a65c_add_72be8_15 rfl rfl ?_
  refine k_iload_n (pc1 := 17) dJx4a65c_add_72be8_16 rfl rfl ?_
  refine k_iconst (pc1 := 18) dJx4a65c_add_72be8_17 rfl ?_
  refine k_iadd (a := ((s : Nat) : Int)) (b := 1) (pc1 := 19) dJx4a65c_add_72be8_18 rfl ?_
  refine k_put (pc1 := 22) dJx4a65c_add_72be8_19 rfl fp_RJx4a65c_48 (Or.inl rfl) hC6_a (Nat.le_of_ble_eq_true rfl) rfl rfl ?_
  obtain ⟨h7, eh7⟩ : ∃ z, z = kup h6 a (.inr (3, [.int (iI mc), .ref ar, .int (iI (((s : Nat) : Int) + 1))])) := ⟨_, rfl⟩
  refine k_hp (h' := h7) eh7.symm ?_
  have hA7 : h7 a = some (.inr (3, [.int (iI mc), .ref ar, .int (iI (((s : Nat) : Int) + 1))])) := by rw [eh7]; exact kup_same _ _ _
  have hfr7 : ∀ b, b ≠ a → h7 b = h6 b := fun b hb => by rw [eh7]; exact kup_ne hb
  clear eh7
  have hC7_x := (hfr7 _ hxa).trans hC6_x
  have hC7_ar := (hfr7 _ (kne_ro hA6 hC6_a)).trans hA6
  exact k_vret dJx4a65c_add_72be8_22 rfl ⟨ar, _, _, rfl, Or.inl rfl, hC7_ar, ⟨by omega, by omega⟩, if_pos rfl, fun i hi => if_neg (by omega), ⟨_, hA7⟩, fun b hb hb2 => (hfr7 b hb2).trans (hfr6 b hb)⟩
theorem w_add3F {l : Launch} {G : kG} {h : kAH} (hl : l.stackTraces = false) {a ar s : Nat} {mc : Int} (hA : h a = some (.inr (3, [.int (iI mc), .ref ar, .int (iI ((s : Nat) : Int))]))) {c : Nat} {F : Nat → Option Nat} (hR : h ar = some (kro G 3 c F)) (hc0 : 1 ≤ c ∧ c ≤ 130) (hs : s = c) {ci : Nat} {rc : vw_C} (hci : vwCl[ci]? = some rc) (hCo : (rc.1, "java/lang/Object") ∈ kCas) (hEl : ∀ i : Nat, i < c → ∀ q : Nat, F i = some q → ∃ vs : List Value, h q = some (.inr (ci, vs))) {x : Nat} {vs : List Value} (hX : h x = some (.inr (ci, vs))) (hxa : x ≠ a) : kC l G m_Jx4a65c_add_72be8 6 1 200 [.ref a, .ref x, .ref ar, .int (iI ((s : Nat) : Int))] h (fun v h' => ∃ q c2 : Nat, ∃ F2 : Nat → Option Nat, v = none ∧ (q = ar ∨ h q = none) ∧ h' q = some (kro G 3 c2 F2) ∧ (s < c2 ∧ c2 ≤ 200) ∧ F2 s = some x ∧ (∀ i, i < s → F2 i = F i) ∧ (∃ mc2 : Int, h' a = some (.inr (3, [.int (iI mc2), .ref q, .int (iI (((s + 1 : Nat) : Nat) : Int))]))) ∧ ∀ b, b ≠ q → b ≠ a → h' b = h b) kNo := by
  have hA2 := hA
  rw [hs] at hA2
  refine kC_of hl rfl rfl (Nat.le_of_ble_eq_true rfl) (L := [some (.ref a), some (.ref x), some (.ref ar), some (.int (iI ((s : Nat) : Int)))]) rfl ?_
  refine k_iload_n (pc1 := 1) dJx4a65c_add_72be8_0 rfl rfl ?_
  refine k_aload_n (pc1 := 2) dJx4a65c_add_72be8_1 rfl rfl ?_
  refine k_alenR (pc1 := 3) dJx4a65c_add_72be8_2 rfl hR (j := 3) rfl ?_
  refine k_icmp_ne (a := ((s : Nat) : Int)) (b := ((c : Nat) : Int)) dJx4a65c_add_72be8_3 rfl (tgt := 11) rfl (by omega) (by omega) (fun c3 : ((s : Nat) : Int) ≠ ((c : Nat) : Int) => by exfalso; omega) (fun c3 : ((s : Nat) : Int) = ((c : Nat) : Int) => ?_)
  refine k_aload_n (pc1 := 7) dJx4a65c_add_72be8_6 rfl rfl ?_
  refine k_callV dJx4a65c_add_72be8_7 rfl lk_RJx4a65c_129 o_Jx4a65c_grow_d5877 (as := []) rfl rfl hA rfl rfl (w_grow1F hl hA2 hR hc0 hci hCo hEl) (by decide) (by decide) (by decide) (by decide) (k8 rfl) (fun v h9 hv => ?_) (fun E h9 z => z.elim)
  obtain ⟨q, c2, F2, hq, hv1, hv2, hv3, hv4, hv5, hv6⟩ := hv
  subst hv1
  refine k_st (st' := [.ref q]) rfl ?_
  have hna : a ≠ q := kne_new hA hq
  have hnx : x ≠ q := kne_new hX hq
  have hnxa : x ≠ a := hxa
  have hX9 := (hv6 _ hnx hxa).trans hX
  rw [← hs] at hv3 hv4 hv5
  refine k_astore_n (pc1 := 11) dJx4a65c_add_72be8_10 rfl (by decide) (k_loc (L' := [some (.ref a), some (.ref x), some (.ref q), some (.int (iI ((s : Nat) : Int)))]) rfl ?_)
  refine k_aload_n (pc1 := 12) dJx4a65c_add_72be8_11 rfl rfl ?_
  refine k_iload_n (pc1 := 13) dJx4a65c_add_72be8_12 rfl rfl ?_
  refine k_aload_n (pc1 := 14) dJx4a65c_add_72be8_13 rfl rfl ?_
  refine k_aast (i := ((s : Nat) : Int)) (pc1 := 15) dJx4a65c_add_72be8_14 rfl hv2 (j := 3) rfl hX9 hci (Or.inr hCo) (by omega) (by omega) (by omega) ?_
  obtain ⟨h8, eh8⟩ : ∃ z, z = kup h9 q (kro G 3 c2 (va_up F2 s (some x))) := ⟨_, rfl⟩
  refine k_hp (h' := h8) eh8.symm ?_
  have hA8 : h8 q = some (kro G 3 c2 (va_up F2 s (some x))) := by rw [eh8]; exact kup_same _ _ _
  have hfr8 : ∀ b, b ≠ q → h8 b = h9 b := fun b hb => by rw [eh8]; exact kup_ne hb
  clear eh8
  have hC8_a := (hfr8 _ hna).trans hv5
  have hC8_x := (hfr8 _ (kne_or hX9 hv2)).trans hX9
  refine k_aload_n (pc1 := 16) dJx4a65c_add_72be8_15 rfl rfl ?_
  refine k_iload_n (pc1 := 17) dJx4a65c_add_72be8_16 rfl rfl ?_
  refine k_iconst (pc1 := 18) dJx4a65c_add_72be8_17 rfl ?_
  refine k_iadd (a := ((s : Nat) : Int)) (b := 1) (pc1 := 19) dJx4a65c_add_72be8_18 rfl ?_
  refine k_put (pc1 := 22) dJx4a65c_add_72be8_19 rfl fp_RJx4a65c_48 (Or.inl rfl) hC8_a (Nat.le_of_ble_eq_true rfl) rfl rfl ?_
  obtain ⟨h9, eh9⟩ : ∃ z, z = kup h8 a (.inr (3, [.int (iI mc), .ref q, .int (iI (((s : Nat) : Int) + 1))])) := ⟨_, rfl⟩
  refine k_hp (h' := h9) eh9.symm ?_
  have hA9 : h9 a = some (.inr (3, [.int (iI mc), .ref q, .int (iI (((s : Nat) : Int) + 1))])) := by rw [eh9]; exact kup_same _ _ _
  have hfr9 : ∀ b, b ≠ a → h9 b = h8 b := fun b hb => by rw [eh9]; exact kup_ne hb
  clear eh9
  have hC9_x := (hfr9 _ hxa).trans hC8_x
  have hC9_q := (hfr9 _ (Ne.symm hna)).trans hA8
  exact k_vret dJx4a65c_add_72be8_22 rfl ⟨q, _, _, rfl, Or.inr hq, hC9_q, ⟨by omega, by omega⟩, if_pos rfl, fun i hi => (if_neg (by omega)).trans (hv4 i (by omega)), ⟨_, hA9⟩, fun b hb hb2 => ((hfr9 b hb2).trans (hfr8 b hb)).trans (hv6 b hb hb2)⟩
theorem w_add3E {l : Launch} {G : kG} {h : kAH} (hl : l.stackTraces = false) {a : Nat} {mc : Int} (hA : h a = some (.inr (3, [.int (iI mc), .ref G.2.2.2, .int (iI 0)]))) {ci : Nat} {rc : vw_C} (hci : vwCl[ci]? = some rc) (hCo : (rc.1, "java/lang/Object") ∈ kCas) {x : Nat} {vs : List Value} (hX : h x = some (.inr (ci, vs))) (hxa : x ≠ a) : kC l G m_Jx4a65c_add_72be8 6 1 200 [.ref a, .ref x, .ref G.2.2.2, .int (iI 0)] h (fun v h' => ∃ q c2 : Nat, ∃ F2 : Nat → Option Nat, v = none ∧ (q = G.2.2.2 ∨ h q = none) ∧ h' q = some (kro G 3 c2 F2) ∧ (0 < c2 ∧ c2 ≤ 200) ∧ F2 0 = some x ∧ (∀ i, i < 0 → F2 i = none) ∧ (∃ mc2 : Int, h' a = some (.inr (3, [.int (iI mc2), .ref q, .int (iI (1 : Int))]))) ∧ ∀ b, b ≠ q → b ≠ a → h' b = h b) kNo := by
  refine kC_of hl rfl rfl (Nat.le_of_ble_eq_true rfl) (L := [some (.ref a), some (.ref x), some (.ref G.2.2.2), some (.int (iI 0))]) rfl ?_
  refine k_iload_n (pc1 := 1) dJx4a65c_add_72be8_0 rfl rfl ?_
  refine k_aload_n (pc1 := 2) dJx4a65c_add_72be8_1 rfl rfl ?_
  refine k_alenE (pc1 := 3) dJx4a65c_add_72be8_2 rfl ?_
  refine k_icmp_ne (a := 0) (b := 0) dJx4a65c_add_72be8_3 rfl (tgt := 11) rfl (by decide) (by decide) (fun c => absurd c (by decide)) (fun _ => ?_)
  refine k_aload_n (pc1 := 7) dJx4a65c_add_72be8_6 rfl rfl ?_
  refine k_callV dJx4a65c_add_72be8_7 rfl lk_RJx4a65c_129 o_Jx4a65c_grow_d5877 (as := []) rfl rfl hA rfl rfl (w_grow1E hl hA) (by decide) (by decide) (by decide) (by decide) (k8 rfl) (fun v h9 hv => ?_) (fun E h9 z => z.elim)
  obtain ⟨q, c2, F2, hq, hv1, hv2, hv3, hv4, hv5, hv6⟩ := hv
  subst hv1
  refine k_st (st' := [.ref q]) rfl ?_
  have hna : a ≠ q := kne_new hA hq
  have hnx : x ≠ q := kne_new hX hq
  have hnxa : x ≠ a := hxa
  have hX9 := (hv6 _ hnx hxa).trans hX
  refine k_astore_n (pc1 := 11) dJx4a65c_add_72be8_10 rfl (by decide) (k_loc (L' := [some (.ref a), some (.ref x), some (.ref q), some (.int (iI 0))]) rfl ?_)
  refine k_aload_n (pc1 := 12) dJx4a65c_add_72be8_11 rfl rfl ?_
  refine k_iload_n (pc1 := 13) dJx4a65c_add_72be8_12 rfl rfl ?_
  refine k_aload_n (pc1 := 14) dJx4a65c_add_72be8_13 rfl rfl ?_
  refine k_aast (i := 0) (pc1 := 15) dJx4a65c_add_72be8_14 rfl hv2 (j := 3) rfl hX9 hci (Or.inr hCo) (by omega) (by omega) (by omega) ?_
  obtain ⟨h10, eh10⟩ : ∃ z, z = kup h9 q (kro G 3 c2 (va_up F2 0 (some x))) := ⟨_, rfl⟩
  refine k_hp (h' := h10) eh10.symm ?_
  have hA10 : h10 q = some (kro G 3 c2 (va_up F2 0 (some x))) := by rw [eh10]; exact kup_same _ _ _
  have hfr10 : ∀ b, b ≠ q → h10 b = h9 b := fun b hb => by rw [eh10]; exact kup_ne hb
  clear eh10
  have hC10_a := (hfr10 _ hna).trans hv5
  have hC10_x := (hfr10 _ (kne_or hX9 hv2)).trans hX9
  refine k_aload_n (pc1 := 16) dJx4a65c_add_72be8_15 rfl rfl ?_
  refine k_iload_n (pc1 := 17) dJx4a65c_add_72be8_16 rfl rfl ?_
  refine k_iconst (pc1 := 18) dJx4a65c_add_72be8_17 rfl ?_
  refine k_iadd (a := 0) (b := 1) (pc1 := 19) dJx4a65c_add_72be8_18 rfl ?_
  refine k_put (pc1 := 22) dJx4a65c_add_72be8_19 rfl fp_RJx4a65c_48 (Or.inl rfl) hC10_a (Nat.le_of_ble_eq_true rfl) rfl rfl ?_
  obtain ⟨h11, eh11⟩ : ∃ z, z = kup h10 a (.inr (3, [.int (iI mc), .ref q, .int (iI (0 + 1))])) := ⟨_, rfl⟩
  refine k_hp (h' := h11) eh11.symm ?_
  have hA11 : h11 a = some (.inr (3, [.int (iI mc), .ref q, .int (iI (0 + 1))])) := by rw [eh11]; exact kup_same _ _ _
  have hfr11 : ∀ b, b ≠ a → h11 b = h10 b := fun b hb => by rw [eh11]; exact kup_ne hb
  clear eh11
  have hC11_x := (hfr11 _ hxa).trans hC10_x
  have hC11_q := (hfr11 _ (Ne.symm hna)).trans hA10
  exact k_vret dJx4a65c_add_72be8_22 rfl ⟨q, _, _, rfl, Or.inr hq, hC11_q, ⟨by omega, by omega⟩, if_pos rfl, fun i hi => absurd hi (by omega), ⟨_, hA11⟩, fun b hb hb2 => ((hfr11 b hb2).trans (hfr10 b hb)).trans (hv6 b hb hb2)⟩
