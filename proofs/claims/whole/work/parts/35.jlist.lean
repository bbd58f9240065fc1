/-! ===== the JDK: lists as such: add, insert, remove ===== -/
def kLx (G : kG) (h : kAH) (a ar : Nat) (xs : List Nat) (h' : kAH) : Prop := ∃ ar' c' : Nat, kLs G h' a ar' c' xs ∧ (ar' = ar ∨ h ar' = none) ∧ ∀ b : Nat, b ≠ a → b ≠ ar → h b ≠ none → h' b = h b
theorem kLs_app {xs : List Nat} {x : Nat} {F2 : Nat → Option Nat} (h1 : F2 xs.length = some x) (h2 : ∀ i : Nat, i < xs.length → F2 i = xs[i]?) : ∀ i : Nat, i < (xs ++ [x]).length → F2 i = (xs ++ [x])[i]? := by
  intro i hi
  rw [List.length_append, List.length_singleton] at hi
  by_cases c : i < xs.length
  · rw [h2 i c, List.getElem?_append_left c]
  · have e : i = xs.length := by omega
    subst e
    rw [h1, List.getElem?_append_right (Nat.le_refl _), Nat.sub_self]
    rfl
theorem w_add1E {l : Launch} {G : kG} {h : kAH} (hl : l.stackTraces = false) {a ar : Nat} {mc : Int} {xs : List Nat} (hA : h a = some (.inr (3, [.int (iI mc), .ref ar, .int (iI ((xs.length : Nat) : Int))]))) (har : ar = G.2.2.2) (hnil : xs = []) (hlen : xs.length ≤ 100) {ci : Nat} {rc : vw_C} (hci : vwCl[ci]? = some rc) (hCo : (rc.1, "java/lang/Object") ∈ kCas) (hc3 : ci ≠ 3) (hEs : ∀ y ∈ xs, ∃ vs : List Value, h y = some (.inr (ci, vs))) {x : Nat} {vs : List Value} (hX : h x = some (.inr (ci, vs))) : kC l G m_Jx4a65c_add_9ea2d 7 1 200 [.ref a, .ref x] h (fun v h' => v = some (.int (iI 1)) ∧ kLx G h a ar (xs ++ [x]) h') kNo := by
  subst har
  subst hnil
  have hxa : x ≠ a := kne_ci hX hA hc3
  refine kC_of hl rfl rfl (Nat.le_of_ble_eq_true rfl) (L := [some (.ref a), some (.ref x)]) rfl ?_
  refine k_aload_n (pc1 := 1) dJx4a65c_add_9ea2d_0 rfl rfl ?_
  refine k_dup (pc1 := 2) dJx4a65c_add_9ea2d_1 rfl rfl ?_
  refine k_get (pc1 := 5) dJx4a65c_add_9ea2d_2 rfl fd_RJx4a65c_63 hA (v := .int (iI mc)) rfl ?_
  refine k_iconst (pc1 := 6) dJx4a65c_add_9ea2d_5 rfl ?_
  refine k_iadd (a := mc) (b := 1) (pc1 := 7) dJx4a65c_add_9ea2d_6 rfl ?_
  refine k_put (pc1 := 10) dJx4a65c_add_9ea2d_7 rfl fp_RJx4a65c_63 (Or.inl rfl) hA (Nat.le_of_ble_eq_true rfl) rfl rfl ?_
  obtain ⟨h12, eh12⟩ : ∃ z, z = kup h a (.inr (3, [.int (iI (mc + 1)), .ref G.2.2.2, .int (iI 0)])) := ⟨_, rfl⟩
  refine k_hp (h' := h12) eh12.symm ?_
  have hA12 : h12 a = some (.inr (3, [.int (iI (mc + 1)), .ref G.2.2.2, .int (iI 0)])) := by rw [eh12]; exact kup_same _ _ _
  have hfr12 : ∀ b, b ≠ a → h12 b = h b := fun b hb => by rw [eh12]; exact kup_ne hb
  clear eh12
  have hC12_x := (hfr12 _ hxa).trans hX
  refine k_aload_n (pc1 := 11) dJx4a65c_add_9ea2d_10 rfl rfl ?_
  refine k_aload_n (pc1 := 12) dJx4a65c_add_9ea2d_11 rfl rfl ?_
  refine k_aload_n (pc1 := 13) dJx4a65c_add_9ea2d_12 rfl rfl ?_
  refine k_get (pc1 := 16) dJx4a65c_add_9ea2d_13 rfl fd_RJx4a65c_9 hA12 (v := .ref G.2.2.2) rfl ?_
  refine k_aload_n (pc1 := 17) dJx4a65c_add_9ea2d_16 rfl rfl ?_
  refine k_get (pc1 := 20) dJx4a65c_add_9ea2d_17 rfl fd_RJx4a65c_48 hA12 (v := .int (iI 0)) rfl ?_
  refine k_callV dJx4a65c_add_9ea2d_20 rfl lk_RJx4a65c_131 o_Jx4a65c_add_72be8 (as := [.ref x, .ref G.2.2.2, .int (iI 0)]) rfl rfl hA12 rfl rfl (w_add3E hl hA12 hci hCo hC12_x hxa) (by decide) (by decide) (by decide) (by decide) (k8 rfl) (fun v h9 hv => ?_) (fun E h9 z => z.elim)
  obtain ⟨q, c2, F2, hv1, hv2, hv3, hv4, hv5, hv6, ⟨mc2, hv7⟩, hv8⟩ := hv
  subst hv1
  refine k_st (st' := []) rfl ?_
  refine k_iconst (pc1 := 24) dJx4a65c_add_9ea2d_23 rfl ?_
  refine k_iret dJx4a65c_add_9ea2d_24 rfl rfl ⟨rfl, q, c2, ⟨⟨mc2, ?_⟩, Or.inr ⟨by omega, by omega, F2, hv3, ?_, ?_⟩⟩, ?_, ?_⟩
  · rw [List.length_append, List.length_singleton]; exact hv7
  · rw [List.length_append, List.length_singleton]; first | omega | (show 0 + 1 ≤ c2; omega)
  · exact kLs_app hv5 (fun i hi => absurd hi (Nat.not_lt_zero i))
  · rcases hv2 with z | z
    · exact Or.inl z
    · exact Or.inr ((hfr12 _ (fun y => by rw [y, hA12] at z; cases z)).symm.trans z)
  · intro b hb hb2 hb3
    refine (hv8 b ?_ hb).trans (hfr12 b hb)
    intro z
    subst z
    rcases hv2 with z | z
    · exact hb2 z
    · rw [hfr12 _ hb] at z; exact hb3 z
theorem w_add1F {l : Launch} {G : kG} {h : kAH} (hl : l.stackTraces = false) {a ar c : Nat} {mc : Int} {F : Nat → Option Nat} {xs : List Nat} (hA : h a = some (.inr (3, [.int (iI mc), .ref ar, .int (iI ((xs.length : Nat) : Int))]))) (hc : 1 ≤ c ∧ c ≤ 200) (hR : h ar = some (kro G 3 c F)) (g3 : xs.length ≤ c) (g4 : ∀ i : Nat, i < xs.length → F i = xs[i]?) (hcl : c = xs.length) (hlen : xs.length ≤ 100) {ci : Nat} {rc : vw_C} (hci : vwCl[ci]? = some rc) (hCo : (rc.1, "java/lang/Object") ∈ kCas) (hc3 : ci ≠ 3) (hEs : ∀ y ∈ xs, ∃ vs : List Value, h y = some (.inr (ci, vs))) {x : Nat} {vs : List Value} (hX : h x = some (.inr (ci, vs))) : kC l G m_Jx4a65c_add_9ea2d 7 1 200 [.ref a, .ref x] h (fun v h' => v = some (.int (iI 1)) ∧ kLx G h a ar (xs ++ [x]) h') kNo := by
  have hxa : x ≠ a := kne_ci hX hA hc3
  refine kC_of hl rfl rfl (Nat.le_of_ble_eq_true rfl) (L := [some (.ref a), some (.ref x)]) rfl ?_
  refine k_aload_n (pc1 := 1) dJx4a65c_add_9ea2d_0 rfl rfl ?_
  refine k_dup (pc1 := 2) dJx4a65c_add_9ea2d_1 rfl rfl ?_
  refine k_get (pc1 := 5) dJx4a65c_add_9ea2d_2 rfl fd_RJx4a65c_63 hA (v := .int (iI mc)) rfl ?_
  refine k_iconst (pc1 := 6) dJx4a65c_add_9ea2d_5 rfl ?_
  refine k_iadd (a := mc) (b := 1) (pc1 := 7) dJx4a65c_add_9ea2d_6 rfl ?_
  refine k_put (pc1 := 10) dJx4a65c_add_9ea2d_7 rfl fp_RJx4a65c_63 (Or.inl rfl) hA (Nat.le_of_ble_eq_true rfl) rfl rfl ?_
  obtain ⟨h13, eh13⟩ : ∃ z, z = kup h a (.inr (3, [.int (iI (mc + 1)), .ref ar, .int (iI ((xs.length : Nat) : Int))])) := ⟨_, rfl⟩
  refine k_hp (h' := h13) eh13.symm ?_
  have hA13 : h13 a = some (.inr (3, [.int (iI (mc + 1)), .ref ar, .int (iI ((xs.length : Nat) : Int))])) := by rw [eh13]; exact kup_same _ _ _
  have hfr13 : ∀ b, b ≠ a → h13 b = h b := fun b hb => by rw [eh13]; exact kup_ne hb
  clear eh13
  have hC13_x := (hfr13 _ hxa).trans hX
  have hC13_ar := (hfr13 _ (kne_ro hR hA)).trans hR
  refine k_aload_n (pc1 := 11) dJx4a65c_add_9ea2d_10 rfl rfl ?_
  refine k_aload_n (pc1 := 12) dJx4a65c_add_9ea2d_11 rfl rfl ?_
  refine k_aload_n (pc1 := 13) dJx4a65c_add_9ea2d_12 rfl rfl ?_
  refine k_get (pc1 := 16) dJx4a65c_add_9ea2d_13 rfl fd_RJx4a65c_9 hA13 (v := .ref ar) rfl ?_
  refine k_aload_n (pc1 := 17) dJx4a65c_add_9ea2d_16 rfl rfl ?_
  refine k_get (pc1 := 20) dJx4a65c_add_9ea2d_17 rfl fd_RJx4a65c_48 hA13 (v := .int (iI ((xs.length : Nat) : Int))) rfl ?_
  have hEl1 : ∀ i : Nat, i < c → ∀ q : Nat, F i = some q → ∃ vs : List Value, h13 q = some (.inr (ci, vs)) := fun i hi q hq => by
    obtain ⟨vs, hv⟩ := hEs q (List.mem_of_getElem? ((g4 i (by omega)).symm.trans hq))
    exact ⟨vs, (hfr13 _ (kne_ci hv hA hc3)).trans hv⟩
  refine k_callV dJx4a65c_add_9ea2d_20 rfl lk_RJx4a65c_131 o_Jx4a65c_add_72be8 (as := [.ref x, .ref ar, .int (iI ((xs.length : Nat) : Int))]) rfl rfl hA13 rfl rfl (w_add3F hl hA13 hC13_ar ⟨by omega, by omega⟩ hcl.symm hci hCo hEl1 hC13_x hxa) (by decide) (by decide) (by decide) (by decide) (k8 rfl) (fun v h9 hv => ?_) (fun E h9 z => z.elim)
  obtain ⟨q, c2, F2, hv1, hv2, hv3, hv4, hv5, hv6, ⟨mc2, hv7⟩, hv8⟩ := hv
  subst hv1
  refine k_st (st' := []) rfl ?_
  refine k_iconst (pc1 := 24) dJx4a65c_add_9ea2d_23 rfl ?_
  refine k_iret dJx4a65c_add_9ea2d_24 rfl rfl ⟨rfl, q, c2, ⟨⟨mc2, ?_⟩, Or.inr ⟨by omega, by omega, F2, hv3, ?_, ?_⟩⟩, ?_, ?_⟩
  · rw [List.length_append, List.length_singleton]; exact hv7
  · rw [List.length_append, List.length_singleton]; first | omega | (show 0 + 1 ≤ c2; omega)
  · exact kLs_app hv5 (fun i hi => (hv6 i hi).trans (g4 i hi))
  · exact (by rcases hv2 with z | z; exact Or.inl z; exact Or.inr ((hfr13 _ (fun y => by rw [y, hA13] at z; cases z)).symm.trans z))
  · intro b hb hb2 hb3
    refine (hv8 b ?_ hb).trans (hfr13 b hb)
    intro z
    subst z
    rcases hv2 with z | z
    · exact hb2 z
    · rw [hfr13 _ hb] at z; exact hb3 z
theorem w_add1N {l : Launch} {G : kG} {h : kAH} (hl : l.stackTraces = false) {a ar c : Nat} {mc : Int} {F : Nat → Option Nat} {xs : List Nat} (hA : h a = some (.inr (3, [.int (iI mc), .ref ar, .int (iI ((xs.length : Nat) : Int))]))) (hc : 1 ≤ c ∧ c ≤ 200) (hR : h ar = some (kro G 3 c F)) (g3 : xs.length ≤ c) (g4 : ∀ i : Nat, i < xs.length → F i = xs[i]?) (hlt : xs.length < c) (hlen : xs.length ≤ 100) {ci : Nat} {rc : vw_C} (hci : vwCl[ci]? = some rc) (hCo : (rc.1, "java/lang/Object") ∈ kCas) (hc3 : ci ≠ 3) (hEs : ∀ y ∈ xs, ∃ vs : List Value, h y = some (.inr (ci, vs))) {x : Nat} {vs : List Value} (hX : h x = some (.inr (ci, vs))) : kC l G m_Jx4a65c_add_9ea2d 7 1 200 [.ref a, .ref x] h (fun v h' => v = some (.int (iI 1)) ∧ kLx G h a ar (xs ++ [x]) h') kNo := by
  have hxa : x ≠ a := kne_ci hX hA hc3
  refine kC_of hl rfl rfl (Nat.le_of_ble_eq_true rfl) (L := [some (.ref a), some (.ref x)]) rfl ?_
  refine k_aload_n (pc1 := 1) dJx4a65c_add_9ea2d_0 rfl rfl ?_
  refine k_dup (pc1 := 2) dJx4a65c_add_9ea2d_1 rfl rfl ?_
  refine k_get (pc1 := 5) dJx4a65c_add_9ea2d_2 rfl fd_RJx4a65c_63 hA (v := .int (iI mc)) rfl ?_
  refine k_iconst (pc1 := 6) dJx4a65c_add_9ea2d_5 rfl ?_
  refine k_iadd (a := mc) (b := 1) (pc1 := 7) dJx4a65c_add_9ea2d_6 rfl ?_
  refine k_put (pc1 := 10) dJx4a65c_add_9ea2d_7 rfl fp_RJx4a65c_63 (Or.inl rfl) hA (Nat.le_of_ble_eq_true rfl) rfl rfl ?_
  obtain ⟨h14, eh14⟩ : ∃ z, z = kup h a (.inr (3, [.int (iI (mc + 1)), .ref ar, .int (iI ((xs.length : Nat) : Int))])) := ⟨_, rfl⟩
  refine k_hp (h' := h14) eh14.symm ?_
  have hA14 : h14 a = some (.inr (3, [.int (iI (mc + 1)), .ref ar, .int (iI ((xs.length : Nat) : Int))])) := by rw [eh14]; exact kup_same _ _ _
  have hfr14 : ∀ b, b ≠ a → h14 b = h b := fun b hb => by rw [eh14]; exact kup_ne hb
  clear eh14
  have hC14_x := (hfr14 _ hxa).trans hX
  have hC14_ar := (hfr14 _ (kne_ro hR hA)).trans hR
  refine k_aload_n (pc1 := 11) dJx4a65c_add_9ea2d_10 rfl rfl ?_
  refine k_aload_n (pc1 := 12) dJx4a65c_add_9ea2d_11 rfl rfl ?_
  refine k_aload_n (pc1 := 13) dJx4a65c_add_9ea2d_12 rfl rfl ?_
  refine k_get (pc1 := 16) dJx4a65c_add_9ea2d_13 rfl fd_RJx4a65c_9 hA14 (v := .ref ar) rfl ?_
  refine k_aload_n (pc1 := 17) dJx4a65c_add_9ea2d_16 rfl rfl ?_
  refine k_get (pc1 := 20) dJx4a65c_add_9ea2d_17 rfl fd_RJx4a65c_48 hA14 (v := .int (iI ((xs.length : Nat) : Int))) rfl ?_
  refine k_callV dJx4a65c_add_9ea2d_20 rfl lk_RJx4a65c_131 o_Jx4a65c_add_72be8 (as := [.ref x, .ref ar, .int (iI ((xs.length : Nat) : Int))]) rfl rfl hA14 rfl rfl (w_add3N hl hA14 hC14_ar (by omega) hlt hci hCo hC14_x hxa) (by decide) (by decide) (by decide) (by decide) (k8 rfl) (fun v h9 hv => ?_) (fun E h9 z => z.elim)
  obtain ⟨q, c2, F2, hv1, hv2, hv3, hv4, hv5, hv6, ⟨mc2, hv7⟩, hv8⟩ := hv
  subst hv1
  refine k_st (st' := []) rfl ?_
  refine k_iconst (pc1 := 24) dJx4a65c_add_9ea2d_23 rfl ?_
  refine k_iret dJx4a65c_add_9ea2d_24 rfl rfl ⟨rfl, q, c2, ⟨⟨mc2, ?_⟩, Or.inr ⟨by omega, by omega, F2, hv3, ?_, ?_⟩⟩, ?_, ?_⟩
  · rw [List.length_append, List.length_singleton]; exact hv7
  · rw [List.length_append, List.length_singleton]; first | omega | (show 0 + 1 ≤ c2; omega)
  · exact kLs_app hv5 (fun i hi => (hv6 i hi).trans (g4 i hi))
  · exact (by rcases hv2 with z | z; exact Or.inl z; exact Or.inr ((hfr14 _ (fun y => by rw [y, hA14] at z; cases z)).symm.trans z))
  · intro b hb hb2 hb3
    refine (hv8 b ?_ hb).trans (hfr14 b hb)
    intro z
    subst z
    rcases hv2 with z | z
    · exact hb2 z
    · rw [hfr14 _ hb] at z; exact hb3 z
theorem w_ladd {l : Launch} {G : kG} {h : kAH} (hl : l.stackTraces = false) {a ar c : Nat} {xs : List Nat} (hS : kLs G h a ar c xs) (hlen : xs.length ≤ 100) {ci : Nat} {rc : vw_C} (hci : vwCl[ci]? = some rc) (hCo : (rc.1, "java/lang/Object") ∈ kCas) (hc3 : ci ≠ 3) (hEs : ∀ y ∈ xs, ∃ vs : List Value, h y = some (.inr (ci, vs))) {x : Nat} {vs : List Value} (hX : h x = some (.inr (ci, vs))) : kC l G m_Jx4a65c_add_9ea2d 7 1 200 [.ref a, .ref x] h (fun v h' => v = some (.int (iI 1)) ∧ kLx G h a ar (xs ++ [x]) h') kNo := by
  obtain ⟨⟨mc, hA⟩, h2⟩ := hS
  rcases h2 with ⟨e1, e2, -⟩ | ⟨g1, g2, F, hR, g3, g4⟩
  · exact w_add1E hl hA e1 e2 hlen hci hCo hc3 hEs hX
  · by_cases q : c = xs.length
    · exact w_add1F hl hA ⟨g1, g2⟩ hR g3 g4 q hlen hci hCo hc3 hEs hX
    · exact w_add1N hl hA ⟨g1, g2⟩ hR g3 g4 (by omega) hlen hci hCo hc3 hEs hX
