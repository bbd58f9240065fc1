/-! ===== the JDK: insert, remove ===== -/
theorem kLs_ins {xs : List Nat} {x i : Nat} {F2 F3 : Nat → Option Nat} (hi : i ≤ xs.length) (h2 : ∀ j : Nat, j < xs.length → F2 j = xs[j]?) (h3 : F3 = va_up (va_cpy F2 F2 i (i + 1) (xs.length - i)) i (some x)) : ∀ j : Nat, j < (xs.insertIdx i x).length → F3 j = (xs.insertIdx i x)[j]? := by
  intro j hj
  rw [List.length_insertIdx, if_pos hi] at hj
  rw [h3, List.getElem?_insertIdx]
  unfold va_up va_cpy
  by_cases c : j = i
  · subst c
    rw [if_pos rfl, if_neg (by omega), if_pos rfl, if_pos hi]
  · rw [if_neg c]
    by_cases c2 : j < i
    · rw [if_neg (by omega), if_pos c2, h2 j (by omega)]
    · rw [if_pos (by omega), if_neg c2, if_neg c, show i + (j - (i + 1)) = j - 1 by omega, h2 _ (by omega)]
theorem kLs_del {xs : List Nat} {i : Nat} {F F3 : Nat → Option Nat} (hi : i < xs.length) (h2 : ∀ j : Nat, j < xs.length → F j = xs[j]?) (h3 : ∀ j : Nat, j < xs.length - 1 → F3 j = if j < i then F j else F (j + 1)) : ∀ j : Nat, j < (xs.eraseIdx i).length → F3 j = (xs.eraseIdx i)[j]? := by
  intro j hj
  rw [List.length_eraseIdx, if_pos hi] at hj
  rw [h3 j hj, List.getElem?_eraseIdx]
  by_cases c : j < i
  · rw [if_pos c, if_pos c, h2 j (by omega)]
  · rw [if_neg c, if_neg c, h2 _ (by omega)]
theorem w_lrc {l : Launch} {G : kG} {h : kAH} (hl : l.stackTraces = false) {a ar : Nat} {mc len : Int} (hA : h a = some (.inr (3, [.int (iI mc), .ref ar, .int (iI len)]))) (i : Int) (hi : 0 ≤ i ∧ i ≤ len) (hl9 : len ≤ 1000) : kC l G m_Jx4a65c_rangeCheckForAdd_d00df 3 0 0 [.ref a, .int (iI i)] h (fun v h' => v = none ∧ h' = h) kNo := by
  refine kC_of hl rfl rfl (Nat.le_of_ble_eq_true rfl) (L := [some (.ref a), some (.int (iI i))]) rfl ?_
  refine k_iload_n (pc1 := 1) dJx4a65c_rangeCheckForAdd_d00df_0 rfl rfl ?_
  refine k_aload_n (pc1 := 2) dJx4a65c_rangeCheckForAdd_d00df_1 rfl rfl ?_
  refine k_get (pc1 := 5) dJx4a65c_rangeCheckForAdd_d00df_2 rfl fd_RJx4a65c_48 hA (v := .int (iI len)) rfl ?_
  refine k_icmp_gt (a := i) (b := len) dJx4a65c_rangeCheckForAdd_d00df_5 rfl (tgt := 12) rfl (by omega) (by omega) (fun c5 : len < i => ?_) (fun c5 : i ≤ len => ?_)
  · skip
    exfalso; omega
  · skip
    refine k_iload_n (pc1 := 9) dJx4a65c_rangeCheckForAdd_d00df_8 rfl rfl ?_
    refine k_if_ge (a := i) dJx4a65c_rangeCheckForAdd_d00df_9 rfl (tgt := 25) rfl (by omega) (fun c9 : 0 ≤ i => ?_) (fun c9 : i < 0 => ?_)
    · skip
      exact k_vret dJx4a65c_rangeCheckForAdd_d00df_25 rfl ⟨rfl, rfl⟩
    · skip
      exfalso; omega
theorem w_insE {l : Launch} {G : kG} {h : kAH} (hl : l.stackTraces = false) {a ar : Nat} {mc : Int} {xs : List Nat} (hA : h a = some (.inr (3, [.int (iI mc), .ref ar, .int (iI ((xs.length : Nat) : Int))]))) (har : ar = G.2.2.2) (hnil : xs = []) {i : Nat} (hi : i ≤ xs.length) (hlen : xs.length ≤ 100) {ci : Nat} {rc : vw_C} (hci : vwCl[ci]? = some rc) (hCo : (rc.1, "java/lang/Object") ∈ kCas) (hc3 : ci ≠ 3) (hEs : ∀ y ∈ xs, ∃ vs : List Value, h y = some (.inr (ci, vs))) {x : Nat} {vs : List Value} (hX : h x = some (.inr (ci, vs))) : kC l G m_Jx4a65c_add_7a177 6 1 200 [.ref a, .int (iI ((i : Nat) : Int)), .ref x] h (fun v h' => v = none ∧ kLx G h a ar (xs.insertIdx i x) h') kNo := by
  subst har
  subst hnil
  have hi0 : i = 0 := Nat.le_zero.mp hi
  subst hi0
  have hxa : x ≠ a := kne_ci hX hA hc3
  refine kC_of hl rfl rfl (Nat.le_of_ble_eq_true rfl) (L := [some (.ref a), some (.int (iI ((0 : Nat) : Int))), some (.ref x), none, none]) rfl ?_
  refine k_aload_n (pc1 := 1) dJx4a65c_add_7a177_0 rfl rfl ?_
  refine k_iload_n (pc1 := 2) dJx4a65c_add_7a177_1 rfl rfl ?_
  refine k_callV dJx4a65c_add_7a177_2 rfl lk_RJx4a65c_135 o_Jx4a65c_rangeCheckForAdd_d00df (as := [.int (iI ((0 : Nat) : Int))]) rfl rfl hA rfl rfl (w_lrc hl hA ((0 : Nat) : Int) ⟨by omega, by omega⟩ (by omega)) (by decide) (by decide) (by decide) (by decide) (k8 rfl) (fun v h9 hv => ?_) (fun E h9 z => z.elim)
  obtain ⟨hv1, hv2⟩ := hv
  subst hv1
  rw [hv2]
  refine k_st (st' := []) rfl ?_
  refine k_aload_n (pc1 := 6) dJx4a65c_add_7a177_5 rfl rfl ?_
  refine k_dup (pc1 := 7) dJx4a65c_add_7a177_6 rfl rfl ?_
  refine k_get (pc1 := 10) dJx4a65c_add_7a177_7 rfl fd_RJx4a65c_63 hA (v := .int (iI mc)) rfl ?_
  refine k_iconst (pc1 := 11) dJx4a65c_add_7a177_10 rfl ?_
  refine k_iadd (a := mc) (b := 1) (pc1 := 12) dJx4a65c_add_7a177_11 rfl ?_
  refine k_put (pc1 := 15) dJx4a65c_add_7a177_12 rfl fp_RJx4a65c_63 (Or.inl rfl) hA (Nat.le_of_ble_eq_true rfl) rfl rfl ?_
  obtain ⟨h15, eh15⟩ : ∃ z, z = kup h a (.inr (3, [.int (iI (mc + 1)), .ref G.2.2.2, .int (iI 0)])) := ⟨_, rfl⟩
  refine k_hp (h' := h15) eh15.symm ?_
  have hA15 : h15 a = some (.inr (3, [.int (iI (mc + 1)), .ref G.2.2.2, .int (iI 0)])) := by rw [eh15]; exact kup_same _ _ _
  have hfr15 : ∀ b, b ≠ a → h15 b = h b := fun b hb => by rw [eh15]; exact kup_ne hb
  clear eh15
  have hC15_x := (hfr15 _ hxa).trans hX
  refine k_aload_n (pc1 := 16) dJx4a65c_add_7a177_15 rfl rfl ?_
  refine k_get (pc1 := 19) dJx4a65c_add_7a177_16 rfl fd_RJx4a65c_48 hA15 (v := .int (iI 0)) rfl ?_
  refine k_dup (pc1 := 20) dJx4a65c_add_7a177_19 rfl rfl ?_
  refine k_istore_n (pc1 := 21) dJx4a65c_add_7a177_20 rfl (by decide) (k_loc (L' := [some (.ref a), some (.int (iI ((0 : Nat) : Int))), some (.ref x), some (.int (iI 0)), none]) rfl ?_)
  refine k_aload_n (pc1 := 22) dJx4a65c_add_7a177_21 rfl rfl ?_
  refine k_get (pc1 := 25) dJx4a65c_add_7a177_22 rfl fd_RJx4a65c_9 hA15 (v := .ref G.2.2.2) rfl ?_
  refine k_dup (pc1 := 26) dJx4a65c_add_7a177_25 rfl rfl ?_
  refine k_astore (pc1 := 28) dJx4a65c_add_7a177_26 rfl (by decide) (k_loc (L' := [some (.ref a), some (.int (iI ((0 : Nat) : Int))), some (.ref x), some (.int (iI 0)), some (.ref G.2.2.2)]) rfl ?_)
  refine k_alenE (pc1 := 29) dJx4a65c_add_7a177_28 rfl ?_
  refine k_icmp_ne (a := 0) (b := 0) dJx4a65c_add_7a177_29 rfl (tgt := 38) rfl (by decide) (by decide) (fun c => absurd c (by decide)) (fun _ => ?_)
  refine k_aload_n (pc1 := 33) dJx4a65c_add_7a177_32 rfl rfl ?_
  refine k_callV dJx4a65c_add_7a177_33 rfl lk_RJx4a65c_129 o_Jx4a65c_grow_d5877 (as := []) rfl rfl hA15 rfl rfl (w_grow1E hl hA15) (by decide) (by decide) (by decide) (by decide) (k8 rfl) (fun v h9 hv => ?_) (fun E h9 z => z.elim)
  obtain ⟨q, c2, F2, hq, hv1, hv2, hv3, hv4, hv5, hv6⟩ := hv
  subst hv1
  refine k_st (st' := [.ref q]) rfl ?_
  have hna : a ≠ q := kne_new hA15 hq
  have hnx : x ≠ q := kne_new hC15_x hq
  have hnxa : x ≠ a := hxa
  have hX9 := (hv6 _ hnx hxa).trans hC15_x
  have g9 : ∀ j : Nat, j < ([] : List Nat).length → F2 j = ([] : List Nat)[j]? := fun j hj => absurd hj (Nat.not_lt_zero j)
  have hEs9 : ∀ y ∈ [], ∃ vs : List Value, h9 y = some (.inr (ci, vs)) := fun y hy => by
    obtain ⟨vs, hv⟩ := hEs y hy
    have z := (hfr15 _ (kne_ci hv hA hc3)).trans hv
    exact ⟨vs, (hv6 _ (kne_new z hq) (kne_ci hv hA hc3)).trans z⟩
  refine k_astore (pc1 := 38) dJx4a65c_add_7a177_36 rfl (by decide) (k_loc (L' := [some (.ref a), some (.int (iI ((0 : Nat) : Int))), some (.ref x), some (.int (iI 0)), some (.ref q)]) rfl ?_)
  refine k_aload (pc1 := 40) dJx4a65c_add_7a177_38 rfl rfl ?_
  refine k_iload_n (pc1 := 41) dJx4a65c_add_7a177_40 rfl rfl ?_
  refine k_aload (pc1 := 43) dJx4a65c_add_7a177_41 rfl rfl ?_
  refine k_iload_n (pc1 := 44) dJx4a65c_add_7a177_43 rfl rfl ?_
  refine k_iconst (pc1 := 45) dJx4a65c_add_7a177_44 rfl ?_
  refine k_iadd (a := ((0 : Nat) : Int)) (b := 1) (pc1 := 46) dJx4a65c_add_7a177_45 rfl ?_
  refine k_iload_n (pc1 := 47) dJx4a65c_add_7a177_46 rfl rfl ?_
  refine k_iload_n (pc1 := 48) dJx4a65c_add_7a177_47 rfl rfl ?_
  refine k_isub (a := 0) (b := ((0 : Nat) : Int)) (pc1 := 49) dJx4a65c_add_7a177_48 rfl ?_
  refine k_val (v' := .int (iI 0)) (congrArg (fun z => Value.int (iI z)) (by omega)) ?_
  refine k_st (st' := [.int (iI 0), .int (iI 1), .ref q, .int (iI ((0 : Nat) : Int)), .ref q]) rfl ?_
  refine k_copy (pc1 := 52) (sp := ((0 : Nat) : Int)) (dp := 1) (nn := 0) dJx4a65c_add_7a177_49 rfl lk_RJx4a65c_112 hv2 hv2 (by omega) (by omega) (by omega) (by omega) (by omega) (by omega) (by omega) hci hCo (fun j hj q hq => hEs9 q (List.mem_of_getElem? ((g9 (0 + j) (by first | omega | exact absurd hj (Nat.not_lt_zero _))).symm.trans hq))) (k8 rfl) ?_
  obtain ⟨h16, eh16⟩ : ∃ z, z = kup h9 q (kro G 3 c2 (va_cpy F2 F2 0 1 0)) := ⟨_, rfl⟩
  refine k_hp (h' := h16) eh16.symm ?_
  have hA16 : h16 q = some (kro G 3 c2 (va_cpy F2 F2 0 1 0)) := by rw [eh16]; exact kup_same _ _ _
  have hfr16 : ∀ b, b ≠ q → h16 b = h9 b := fun b hb => by rw [eh16]; exact kup_ne hb
  clear eh16
  have hC16_a := (hfr16 _ hna).trans hv5
  have hC16_x := (hfr16 _ (kne_or hX9 hv2)).trans hX9
  refine k_aload (pc1 := 54) dJx4a65c_add_7a177_52 rfl rfl ?_
  refine k_iload_n (pc1 := 55) dJx4a65c_add_7a177_54 rfl rfl ?_
  refine k_aload_n (pc1 := 56) dJx4a65c_add_7a177_55 rfl rfl ?_
  refine k_aast (i := ((0 : Nat) : Int)) (pc1 := 57) dJx4a65c_add_7a177_56 rfl hA16 (j := 3) rfl hC16_x hci (Or.inr hCo) (by omega) (by omega) (by omega) ?_
  obtain ⟨h17, eh17⟩ : ∃ z, z = kup h16 q (kro G 3 c2 (va_up (va_cpy F2 F2 0 1 0) 0 (some x))) := ⟨_, rfl⟩
  refine k_hp (h' := h17) eh17.symm ?_
  have hA17 : h17 q = some (kro G 3 c2 (va_up (va_cpy F2 F2 0 1 0) 0 (some x))) := by rw [eh17]; exact kup_same _ _ _
  have hfr17 : ∀ b, b ≠ q → h17 b = h16 b := fun b hb => by rw [eh17]; exact kup_ne hb
  clear eh17
  have hC17_a := (hfr17 _ hna).trans hC16_a
  have hC17_x := (hfr17 _ (kne_or hC16_x hA16)).trans hC16_x
  refine k_aload_n (pc1 := 58) dJx4a65c_add_7a177_57 rfl rfl ?_
  refine k_iload_n (pc1 := 59) dJx4a65c_add_7a177_58 rfl rfl ?_
  refine k_iconst (pc1 := 60) dJx4a65c_add_7a177_59 rfl ?_
  refine k_iadd (a := 0) (b := 1) (pc1 := 61) dJx4a65c_add_7a177_60 rfl ?_
  refine k_put (pc1 := 64) dJx4a65c_add_7a177_61 rfl fp_RJx4a65c_48 (Or.inl rfl) hC17_a (Nat.le_of_ble_eq_true rfl) rfl rfl ?_
  obtain ⟨h18, eh18⟩ : ∃ z, z = kup h17 a (.inr (3, [.int (iI (mc + 1)), .ref q, .int (iI (0 + 1))])) := ⟨_, rfl⟩
  refine k_hp (h' := h18) eh18.symm ?_
  have hA18 : h18 a = some (.inr (3, [.int (iI (mc + 1)), .ref q, .int (iI (0 + 1))])) := by rw [eh18]; exact kup_same _ _ _
  have hfr18 : ∀ b, b ≠ a → h18 b = h17 b := fun b hb => by rw [eh18]; exact kup_ne hb
  clear eh18
  have hC18_x := (hfr18 _ hxa).trans hC17_x
  have hC18_q := (hfr18 _ (Ne.symm hna)).trans hA17
  refine k_vret dJx4a65c_add_7a177_64 rfl ⟨rfl, q, c2, ⟨⟨mc + 1, ?_⟩, Or.inr ⟨by omega, by omega, _, hC18_q, ?_, ?_⟩⟩, Or.inr ((hfr15 _ (fun y => by rw [y, hA15] at hq; cases hq)).symm.trans hq), ?_⟩
  · rw [List.length_insertIdx, if_pos hi]; exact hA18
  · rw [List.length_insertIdx, if_pos hi]; first | omega | (show 0 + 1 ≤ c2; omega)
  · exact kLs_ins hi g9 rfl
  · intro b hb hb2 hb3
    have hbq : b ≠ q := fun z => by subst z; rw [hfr15 _ hb] at hq; exact hb3 hq
    exact ((hfr18 b hb).trans ((hfr17 b hbq).trans (hfr16 b hbq))).trans ((hv6 b hbq hb).trans (hfr15 b hb))
theorem w_insF {l : Launch} {G : kG} {h : kAH} (hl : l.stackTraces = false) {a ar c : Nat} {mc : Int} {F : Nat → Option Nat} {xs : List Nat} (hA : h a = some (.inr (3, [.int (iI mc), .ref ar, .int (iI ((xs.length : Nat) : Int))]))) (hc : 1 ≤ c ∧ c ≤ 200) (hR : h ar = some (kro G 3 c F)) (g3 : xs.length ≤ c) (g4 : ∀ i : Nat, i < xs.length → F i = xs[i]?) (hcl : c = xs.length) {i : Nat} (hi : i ≤ xs.length) (hlen : xs.length ≤ 100) {ci : Nat} {rc : vw_C} (hci : vwCl[ci]? = some rc) (hCo : (rc.1, "java/lang/Object") ∈ kCas) (hc3 : ci ≠ 3) (hEs : ∀ y ∈ xs, ∃ vs : List Value, h y = some (.inr (ci, vs))) {x : Nat} {vs : List Value} (hX : h x = some (.inr (ci, vs))) : kC l G m_Jx4a65c_add_7a177 6 1 200 [.ref a, .int (iI ((i : Nat) : Int)), .ref x] h (fun v h' => v = none ∧ kLx G h a ar (xs.insertIdx i x) h') kNo := by
  have hxa : x ≠ a := kne_ci hX hA hc3
  refine kC_of hl rfl rfl (Nat.le_of_ble_eq_true rfl) (L := [some (.ref a), some (.int (iI ((i : Nat) : Int))), some (.ref x), none, none]) rfl ?_
  refine k_aload_n (pc1 := 1) dJx4a65c_add_7a177_0 rfl rfl ?_
  refine k_iload_n (pc1 := 2) dJx4a65c_add_7a177_1 rfl rfl ?_
  refine k_callV dJx4a65c_add_7a177_2 rfl lk_RJx4a65c_135 o_Jx4a65c_rangeCheckForAdd_d00df (as := [.int (iI ((i : Nat) : Int))]) rfl rfl hA rfl rfl (w_lrc hl hA ((i : Nat) : Int) ⟨by omega, by omega⟩ (by omega)) (by decide) (by decide) (by decide) (by decide) (k8 rfl) (fun v h9 hv => ?_) (fun E h9 z => z.elim)
  obtain ⟨hv1, hv2⟩ := hv
  subst hv1
  rw [hv2]
  refine k_st (st' := []) rfl ?_
  refine k_aload_n (pc1 := 6) dJx4a65c_add_7a177_5 rfl rfl ?_
  refine k_dup (pc1 := 7) dJx4a65c_add_7a177_6 rfl rfl ?_
  refine k_get (pc1 := 10) dJx4a65c_add_7a177_7 rfl fd_RJx4a65c_63 hA (v := .int (iI mc)) rfl ?_
  refine k_iconst (pc1 := 11) dJx4a65c_add_7a177_10 rfl ?_
  refine k_iadd (a := mc) (b := 1) (pc1 := 12) dJx4a65c_add_7a177_11 rfl ?_
  refine k_put (pc1 := 15) dJx4a65c_add_7a177_12 rfl fp_RJx4a65c_63 (Or.inl rfl) hA (Nat.le_of_ble_eq_true rfl) rfl rfl ?_
  obtain ⟨h19, eh19⟩ : ∃ z, z = kup h a (.inr (3, [.int (iI (mc + 1)), .ref ar, .int (iI ((xs.length : Nat) : Int))])) := ⟨_, rfl⟩
  refine k_hp (h' := h19) eh19.symm ?_
  have hA19 : h19 a = some (.inr (3, [.int (iI (mc + 1)), .ref ar, .int (iI ((xs.length : Nat) : Int))])) := by rw [eh19]; exact kup_same _ _ _
  have hfr19 : ∀ b, b ≠ a → h19 b = h b := fun b hb => by rw [eh19]; exact kup_ne hb
  clear eh19
  have hC19_x := (hfr19 _ hxa).trans hX
  have hC19_ar := (hfr19 _ (kne_ro hR hA)).trans hR
  refine k_aload_n (pc1 := 16) dJx4a65c_add_7a177_15 rfl rfl ?_
  refine k_get (pc1 := 19) dJx4a65c_add_7a177_16 rfl fd_RJx4a65c_48 hA19 (v := .int (iI ((xs.length : Nat) : Int))) rfl ?_
  refine k_dup (pc1 := 20) dJx4a65c_add_7a177_19 rfl rfl ?_
  refine k_istore_n (pc1 := 21) dJx4a65c_add_7a177_20 rfl (by decide) (k_loc (L' := [some (.ref a), some (.int (iI ((i : Nat) : Int))), some (.ref x), some (.int (iI ((xs.length : Nat) : Int))), none]) rfl ?_)
  refine k_aload_n (pc1 := 22) dJx4a65c_add_7a177_21 rfl rfl ?_
  refine k_get (pc1 := 25) dJx4a65c_add_7a177_22 rfl fd_RJx4a65c_9 hA19 (v := .ref ar) rfl ?_
  refine k_dup (pc1 := 26) dJx4a65c_add_7a177_25 rfl rfl ?_
  refine k_astore (pc1 := 28) dJx4a65c_add_7a177_26 rfl (by decide) (k_loc (L' := [some (.ref a), some (.int (iI ((i : Nat) : Int))), some (.ref x), some (.int (iI ((xs.length : Nat) : Int))), some (.ref ar)]) rfl ?_)
  refine k_alenR (pc1 := 29) dJx4a65c_add_7a177_28 rfl hC19_ar (j := 3) rfl ?_
  refine k_icmp_ne (a := ((xs.length : Nat) : Int)) (b := ((c : Nat) : Int)) dJx4a65c_add_7a177_29 rfl (tgt := 38) rfl (by omega) (by omega) (fun c29 : ((xs.length : Nat) : Int) ≠ ((c : Nat) : Int) => by exfalso; omega) (fun c29 : ((xs.length : Nat) : Int) = ((c : Nat) : Int) => ?_)
  refine k_aload_n (pc1 := 33) dJx4a65c_add_7a177_32 rfl rfl ?_
  have hEl1 : ∀ i : Nat, i < c → ∀ q : Nat, F i = some q → ∃ vs : List Value, h19 q = some (.inr (ci, vs)) := fun i hi q hq => by
    obtain ⟨vs, hv⟩ := hEs q (List.mem_of_getElem? ((g4 i (by omega)).symm.trans hq))
    exact ⟨vs, (hfr19 _ (kne_ci hv hA hc3)).trans hv⟩
  have hA9 := hA19
  rw [← hcl] at hA9
  refine k_callV dJx4a65c_add_7a177_33 rfl lk_RJx4a65c_129 o_Jx4a65c_grow_d5877 (as := []) rfl rfl hA19 rfl rfl (w_grow1F hl hA9 hC19_ar ⟨by omega, by omega⟩ hci hCo hEl1) (by decide) (by decide) (by decide) (by decide) (k8 rfl) (fun v h9 hv => ?_) (fun E h9 z => z.elim)
  obtain ⟨q, c2, F2, hq, hv1, hv2, hv3, hv4, hv5, hv6⟩ := hv
  subst hv1
  refine k_st (st' := [.ref q]) rfl ?_
  have hna : a ≠ q := kne_new hA19 hq
  have hnx : x ≠ q := kne_new hC19_x hq
  have hnxa : x ≠ a := hxa
  have hX9 := (hv6 _ hnx hxa).trans hC19_x
  rw [hcl] at hv3 hv4 hv5
  have g9 : ∀ j : Nat, j < xs.length → F2 j = xs[j]? := fun j hj => (hv4 j hj).trans (g4 j hj)
  have hEs9 : ∀ y ∈ xs, ∃ vs : List Value, h9 y = some (.inr (ci, vs)) := fun y hy => by
    obtain ⟨vs, hv⟩ := hEs y hy
    have z := (hfr19 _ (kne_ci hv hA hc3)).trans hv
    exact ⟨vs, (hv6 _ (kne_new z hq) (kne_ci hv hA hc3)).trans z⟩
  refine k_astore (pc1 := 38) dJx4a65c_add_7a177_36 rfl (by decide) (k_loc (L' := [some (.ref a), some (.int (iI ((i : Nat) : Int))), some (.ref x), some (.int (iI ((xs.length : Nat) : Int))), some (.ref q)]) rfl ?_)
  refine k_aload (pc1 := 40) dJx4a65c_add_7a177_38 rfl rfl ?_
  refine k_iload_n (pc1 := 41) dJx4a65c_add_7a177_40 rfl rfl ?_
  refine k_aload (pc1 := 43) dJx4a65c_add_7a177_41 rfl rfl ?_
  refine k_iload_n (pc1 := 44) dJx4a65c_add_7a177_43 rfl rfl ?_
  refine k_iconst (pc1 := 45) dJx4a65c_add_7a177_44 rfl ?_
  refine k_iadd (a := ((i : Nat) : Int)) (b := 1) (pc1 := 46) dJx4a65c_add_7a177_45 rfl ?_
  refine k_iload_n (pc1 := 47) dJx4a65c_add_7a177_46 rfl rfl ?_
  refine k_iload_n (pc1 := 48) dJx4a65c_add_7a177_47 rfl rfl ?_
  refine k_isub (a := ((xs.length : Nat) : Int)) (b := ((i : Nat) : Int)) (pc1 := 49) dJx4a65c_add_7a177_48 rfl ?_
  refine k_val (v' := .int (iI ((xs.length - i : Nat) : Int))) (congrArg (fun z => Value.int (iI z)) (by omega)) ?_
  refine k_st (st' := [.int (iI ((xs.length - i : Nat) : Int)), .int (iI ((i + 1 : Nat) : Int)), .ref q, .int (iI ((i : Nat) : Int)), .ref q]) rfl ?_
  refine k_copy (pc1 := 52) (sp := ((i : Nat) : Int)) (dp := ((i + 1 : Nat) : Int)) (nn := ((xs.length - i : Nat) : Int)) dJx4a65c_add_7a177_49 rfl lk_RJx4a65c_112 hv2 hv2 (by omega) (by omega) (by omega) (by omega) (by omega) (by omega) (by omega) hci hCo (fun j hj q hq => hEs9 q (List.mem_of_getElem? ((g9 (i + j) (by first | omega | exact absurd hj (Nat.not_lt_zero _))).symm.trans hq))) (k8 rfl) ?_
  obtain ⟨h20, eh20⟩ : ∃ z, z = kup h9 q (kro G 3 c2 (va_cpy F2 F2 i (i + 1) (xs.length - i))) := ⟨_, rfl⟩
  refine k_hp (h' := h20) eh20.symm ?_
  have hA20 : h20 q = some (kro G 3 c2 (va_cpy F2 F2 i (i + 1) (xs.length - i))) := by rw [eh20]; exact kup_same _ _ _
  have hfr20 : ∀ b, b ≠ q → h20 b = h9 b := fun b hb => by rw [eh20]; exact kup_ne hb
  clear eh20
  have hC20_a := (hfr20 _ hna).trans hv5
  have hC20_x := (hfr20 _ (kne_or hX9 hv2)).trans hX9
  refine k_aload (pc1 := 54) dJx4a65c_add_7a177_52 rfl rfl ?_
  refine k_iload_n (pc1 := 55) dJx4a65c_add_7a177_54 rfl rfl ?_
  refine k_aload_n (pc1 := 56) dJx4a65c_add_7a177_55 rfl rfl ?_
  refine k_aast (i := ((i : Nat) : Int)) (pc1 := 57) dJx4a65c_add_7a177_56 rfl hA20 (j := 3) rfl hC20_x hci (Or.inr hCo) (by omega) (by omega) (by omega) ?_
  obtain ⟨h21, eh21⟩ : ∃ z, z = kup h20 q (kro G 3 c2 (va_up (va_cpy F2 F2 i (i + 1) (xs.length - i)) i (some x))) := ⟨_, rfl⟩
  refine k_hp (h' := h21) eh21.symm ?_
  have hA21 : h21 q = some (kro G 3 c2 (va_up (va_cpy F2 F2 i (i + 1) (xs.length - i)) i (some x))) := by rw [eh21]; exact kup_same _ _ _
  have hfr21 : ∀ b, b ≠ q → h21 b = h20 b := fun b hb => by rw [eh21]; exact kup_ne hb
  clear eh21
  have hC21_a := (hfr21 _ hna).trans hC20_a
  have hC21_x := (hfr21 _ (kne_or hC20_x hA20)).trans hC20_x
  refine k_aload_n (pc1 := 58) dJx4a65c_add_7a177_57 rfl rfl ?_
  refine k_iload_n (pc1 := 59) dJx4a65c_add_7a177_58 rfl rfl ?_
  refine k_iconst (pc1 := 60) dJx4a65c_add_7a177_59 rfl ?_
  refine k_iadd (a := ((xs.length : Nat) : Int)) (b := 1) (pc1 := 61) dJx4a65c_add_7a177_60 rfl ?_
  refine k_put (pc1 := 64) dJx4a65c_add_7a177_61 rfl fp_RJx4a65c_48 (Or.inl rfl) hC21_a (Nat.le_of_ble_eq_true rfl) rfl rfl ?_
  obtain ⟨h22, eh22⟩ : ∃ z, z = kup h21 a (.inr (3, [.int (iI (mc + 1)), .ref q, .int (iI (((xs.length : Nat) : Int) + 1))])) := ⟨_, rfl⟩
  refine k_hp (h' := h22) eh22.symm ?_
  have hA22 : h22 a = some (.inr (3, [.int (iI (mc + 1)), .ref q, .int (iI (((xs.length : Nat) : Int) + 1))])) := by rw [eh22]; exact kup_same _ _ _
  have hfr22 : ∀ b, b ≠ a → h22 b = h21 b := fun b hb => by rw [eh22]; exact kup_ne hb
  clear eh22
  have hC22_x := (hfr22 _ hxa).trans hC21_x
  have hC22_q := (hfr22 _ (Ne.symm hna)).trans hA21
  refine k_vret dJx4a65c_add_7a177_64 rfl ⟨rfl, q, c2, ⟨⟨mc + 1, ?_⟩, Or.inr ⟨by omega, by omega, _, hC22_q, ?_, ?_⟩⟩, Or.inr ((hfr19 _ (fun y => by rw [y, hA19] at hq; cases hq)).symm.trans hq), ?_⟩
  · rw [List.length_insertIdx, if_pos hi]; exact hA22
  · rw [List.length_insertIdx, if_pos hi]; first | omega | (show 0 + 1 ≤ c2; omega)
  · exact kLs_ins hi g9 rfl
  · intro b hb hb2 hb3
    have hbq : b ≠ q := fun z => by subst z; rw [hfr19 _ hb] at hq; exact hb3 hq
    exact ((hfr22 b hb).trans ((hfr21 b hbq).trans (hfr20 b hbq))).trans ((hv6 b hbq hb).trans (hfr19 b hb))
theorem w_insN {l : Launch} {G : kG} {h : kAH} (hl : l.stackTraces = false) {a ar c : Nat} {mc : Int} {F : Nat → Option Nat} {xs : List Nat} (hA : h a = some (.inr (3, [.int (iI mc), .ref ar, .int (iI ((xs.length : Nat) : Int))]))) (hc : 1 ≤ c ∧ c ≤ 200) (hR : h ar = some (kro G 3 c F)) (g3 : xs.length ≤ c) (g4 : ∀ i : Nat, i < xs.length → F i = xs[i]?) (hlt : xs.length < c) {i : Nat} (hi : i ≤ xs.length) (hlen : xs.length ≤ 100) {ci : Nat} {rc : vw_C} (hci : vwCl[ci]? = some rc) (hCo : (rc.1, "java/lang/Object") ∈ kCas) (hc3 : ci ≠ 3) (hEs : ∀ y ∈ xs, ∃ vs : List Value, h y = some (.inr (ci, vs))) {x : Nat} {vs : List Value} (hX : h x = some (.inr (ci, vs))) : kC l G m_Jx4a65c_add_7a177 6 1 200 [.ref a, .int (iI ((i : Nat) : Int)), .ref x] h (fun v h' => v = none ∧ kLx G h a ar (xs.insertIdx i x) h') kNo := by
  have hxa : x ≠ a := kne_ci hX hA hc3
  refine kC_of hl rfl rfl (Nat.le_of_ble_eq_true rfl) (L := [some (.ref a), some (.int (iI ((i : Nat) : Int))), some (.ref x), none, none]) rfl ?_
  refine k_aload_n (pc1 := 1) dJx4a65c_add_7a177_0 rfl rfl ?_
  refine k_iload_n (pc1 := 2) dJx4a65c_add_7a177_1 rfl rfl ?_
  refine k_callV dJx4a65c_add_7a177_2 rfl lk_RJx4a65c_135 o_Jx4a65c_rangeCheckForAdd_d00df (as := [.int (iI ((i : Nat) : Int))]) rfl rfl hA rfl rfl (w_lrc hl hA ((i : Nat) : Int) ⟨by omega, by omega⟩ (by omega)) (by decide) (by decide) (by decide) (by decide) (k8 rfl) (fun v h9 hv => ?_) (fun E h9 z => z.elim)
  obtain ⟨hv1, hv2⟩ := hv
  subst hv1
  rw [hv2]
  refine k_st (st' := []) rfl ?_
  refine k_aload_n (pc1 := 6) dJx4a65c_add_7a177_5 rfl rfl ?_
  refine k_dup (pc1 := 7) dJx4a65c_add_7a177_6 rfl rfl ?_
  refine k_get (pc1 := 10) dJx4a65c_add_7a177_7 rfl fd_RJx4a65c_63 hA (v := .int (iI mc)) rfl ?_
  refine k_iconst (pc1 := 11) dJx4a65c_add_7a177_10 rfl ?_
  refine k_iadd (a := mc) (b := 1) (pc1 := 12) dJx4a65c_add_7a177_11 rfl ?_
  refine k_put (pc1 := 15) dJx4a65c_add_7a177_12 rfl fp_RJx4a65c_63 (Or.inl rfl) hA (Nat.le_of_ble_eq_true rfl) rfl rfl ?_
  obtain ⟨h23, eh23⟩ : ∃ z, z = kup h a (.inr (3, [.int (iI (mc + 1)), .ref ar, .int (iI ((xs.length : Nat) : Int))])) := ⟨_, rfl⟩
  refine k_hp (h' := h23) eh23.symm ?_
  have hA23 : h23 a = some (.inr (3, [.int (iI (mc + 1)), .ref ar, .int (iI ((xs.length : Nat) : Int))])) := by rw [eh23]; exact kup_same _ _ _
  have hfr23 : ∀ b, b ≠ a → h23 b = h b := fun b hb => by rw [eh23]; exact kup_ne hb
  clear eh23
  have hC23_x := (hfr23 _ hxa).trans hX
  have hC23_ar := (hfr23 _ (kne_ro hR hA)).trans hR
  refine k_aload_n (pc1 := 16) dJx4a65c_add_7a177_15 rfl rfl ?_
  refine k_get (pc1 := 19) dJx4a65c_add_7a177_16 rfl fd_RJx4a65c_48 hA23 (v := .int (iI ((xs.length : Nat) : Int))) rfl ?_
  refine k_dup (pc1 := 20) dJx4a65c_add_7a177_19 rfl rfl ?_
  refine k_istore_n (pc1 := 21) dJx4a65c_add_7a177_20 rfl (by decide) (k_loc (L' := [some (.ref a), some (.int (iI ((i : Nat) : Int))), some (.ref x), some (.int (iI ((xs.length : Nat) : Int))), none]) rfl ?_)
  refine k_aload_n (pc1 := 22) dJx4a65c_add_7a177_21 rfl rfl ?_
  refine k_get (pc1 := 25) dJx4a65c_add_7a177_22 rfl fd_RJx4a65c_9 hA23 (v := .ref ar) rfl ?_
  refine k_dup (pc1 := 26) dJx4a65c_add_7a177_25 rfl rfl ?_
  refine k_astore (pc1 := 28) dJx4a65c_add_7a177_26 rfl (by decide) (k_loc (L' := [some (.ref a), some (.int (iI ((i : Nat) : Int))), some (.ref x), some (.int (iI ((xs.length : Nat) : Int))), some (.ref ar)]) rfl ?_)
  refine k_alenR (pc1 := 29) dJx4a65c_add_7a177_28 rfl hC23_ar (j := 3) rfl ?_
  refine k_icmp_ne (a := ((xs.length : Nat) : Int)) (b := ((c : Nat) : Int)) dJx4a65c_add_7a177_29 rfl (tgt := 38) rfl (by omega) (by omega) (fun c29 : ((xs.length : Nat) : Int) ≠ ((c : Nat) : Int) => ?_) (fun c29 : ((xs.length : Nat) : Int) = ((c : Nat) : Int) => by exfalso; omega)
  have hEsN : ∀ y ∈ xs, ∃ vs : List Value, h23 y = some (.inr (ci, vs)) := fun y hy => by
    obtain ⟨vs, hv⟩ := hEs y hy
    exact ⟨vs, (hfr23 _ (kne_ci hv hA hc3)).trans hv⟩
  refine k_aload (pc1 := 40) dJx4a65c_add_7a177_38 rfl rfl ?_
  refine k_iload_n (pc1 := 41) dJx4a65c_add_7a177_40 rfl rfl ?_
  refine k_aload (pc1 := 43) dJx4a65c_add_7a177_41 rfl rfl ?_
  refine k_iload_n (pc1 := 44) dJx4a65c_add_7a177_43 rfl rfl ?_
  refine k_iconst (pc1 := 45) dJx4a65c_add_7a177_44 rfl ?_
  refine k_iadd (a := ((i : Nat) : Int)) (b := 1) (pc1 := 46) dJx4a65c_add_7a177_45 rfl ?_
  refine k_iload_n (pc1 := 47) dJx4a65c_add_7a177_46 rfl rfl ?_
  refine k_iload_n (pc1 := 48) dJx4a65c_add_7a177_47 rfl rfl ?_
  refine k_isub (a := ((xs.length : Nat) : Int)) (b := ((i : Nat) : Int)) (pc1 := 49) dJx4a65c_add_7a177_48 rfl ?_
  refine k_val (v' := .int (iI ((xs.length - i : Nat) : Int))) (congrArg (fun z => Value.int (iI z)) (by omega)) ?_
  refine k_st (st' := [.int (iI ((xs.length - i : Nat) : Int)), .int (iI ((i + 1 : Nat) : Int)), .ref ar, .int (iI ((i : Nat) : Int)), .ref ar]) rfl ?_
  refine k_copy (pc1 := 52) (sp := ((i : Nat) : Int)) (dp := ((i + 1 : Nat) : Int)) (nn := ((xs.length - i : Nat) : Int)) dJx4a65c_add_7a177_49 rfl lk_RJx4a65c_112 hC23_ar hC23_ar (by omega) (by omega) (by omega) (by omega) (by omega) (by omega) (by omega) hci hCo (fun j hj q hq => hEsN q (List.mem_of_getElem? ((g4 (i + j) (by first | omega | exact absurd hj (Nat.not_lt_zero _))).symm.trans hq))) (k8 rfl) ?_
  obtain ⟨h24, eh24⟩ : ∃ z, z = kup h23 ar (kro G 3 c (va_cpy F F i (i + 1) (xs.length - i))) := ⟨_, rfl⟩
  refine k_hp (h' := h24) eh24.symm ?_
  have hA24 : h24 ar = some (kro G 3 c (va_cpy F F i (i + 1) (xs.length - i))) := by rw [eh24]; exact kup_same _ _ _
  have hfr24 : ∀ b, b ≠ ar → h24 b = h23 b := fun b hb => by rw [eh24]; exact kup_ne hb
  clear eh24
  have hC24_a := (hfr24 _ (kne_or hA23 hC23_ar)).trans hA23
  have hC24_x := (hfr24 _ (kne_or hC23_x hC23_ar)).trans hC23_x
  refine k_aload (pc1 := 54) dJx4a65c_add_7a177_52 rfl rfl ?_
  refine k_iload_n (pc1 := 55) dJx4a65c_add_7a177_54 rfl rfl ?_
  refine k_aload_n (pc1 := 56) dJx4a65c_add_7a177_55 rfl rfl ?_
  refine k_aast (i := ((i : Nat) : Int)) (pc1 := 57) dJx4a65c_add_7a177_56 rfl hA24 (j := 3) rfl hC24_x hci (Or.inr hCo) (by omega) (by omega) (by omega) ?_
  obtain ⟨h25, eh25⟩ : ∃ z, z = kup h24 ar (kro G 3 c (va_up (va_cpy F F i (i + 1) (xs.length - i)) i (some x))) := ⟨_, rfl⟩
  refine k_hp (h' := h25) eh25.symm ?_
  have hA25 : h25 ar = some (kro G 3 c (va_up (va_cpy F F i (i + 1) (xs.length - i)) i (some x))) := by rw [eh25]; exact kup_same _ _ _
  have hfr25 : ∀ b, b ≠ ar → h25 b = h24 b := fun b hb => by rw [eh25]; exact kup_ne hb
  clear eh25
  have hC25_a := (hfr25 _ (kne_or hC24_a hA24)).trans hC24_a
  have hC25_x := (hfr25 _ (kne_or hC24_x hA24)).trans hC24_x
  refine k_aload_n (pc1 := 58) dJx4a65c_add_7a177_57 rfl rfl ?_
  refine k_iload_n (pc1 := 59) dJx4a65c_add_7a177_58 rfl rfl ?_
  refine k_iconst (pc1 := 60) dJx4a65c_add_7a177_59 rfl ?_
  refine k_iadd (a := ((xs.length : Nat) : Int)) (b := 1) (pc1 := 61) dJx4a65c_add_7a177_60 rfl ?_
  refine k_put (pc1 := 64) dJx4a65c_add_7a177_61 rfl fp_RJx4a65c_48 (Or.inl rfl) hC25_a (Nat.le_of_ble_eq_true rfl) rfl rfl ?_
  obtain ⟨h26, eh26⟩ : ∃ z, z = kup h25 a (.inr (3, [.int (iI (mc + 1)), .ref ar, .int (iI (((xs.length : Nat) : Int) + 1))])) := ⟨_, rfl⟩
  refine k_hp (h' := h26) eh26.symm ?_
  have hA26 : h26 a = some (.inr (3, [.int (iI (mc + 1)), .ref ar, .int (iI (((xs.length : Nat) : Int) + 1))])) := by rw [eh26]; exact kup_same _ _ _
  have hfr26 : ∀ b, b ≠ a → h26 b = h25 b := fun b hb => by rw [eh26]; exact kup_ne hb
  clear eh26
  have hC26_x := (hfr26 _ hxa).trans hC25_x
  have hC26_ar := (hfr26 _ (kne_ro hA25 hC25_a)).trans hA25
  refine k_vret dJx4a65c_add_7a177_64 rfl ⟨rfl, ar, c, ⟨⟨mc + 1, ?_⟩, Or.inr ⟨by omega, by omega, _, hC26_ar, ?_, ?_⟩⟩, Or.inl rfl, ?_⟩
  · rw [List.length_insertIdx, if_pos hi]; exact hA26
  · rw [List.length_insertIdx, if_pos hi]; first | omega | (show 0 + 1 ≤ c2; omega)
  · exact kLs_ins hi g4 rfl
  · intro b hb hb2 hb3
    exact (hfr26 b hb).trans ((hfr25 b hb2).trans ((hfr24 b hb2).trans (hfr23 b hb)))
theorem w_lins {l : Launch} {G : kG} {h : kAH} (hl : l.stackTraces = false) {a ar c : Nat} {xs : List Nat} (hS : kLs G h a ar c xs) {i : Nat} (hi : i ≤ xs.length) (hlen : xs.length ≤ 100) {ci : Nat} {rc : vw_C} (hci : vwCl[ci]? = some rc) (hCo : (rc.1, "java/lang/Object") ∈ kCas) (hc3 : ci ≠ 3) (hEs : ∀ y ∈ xs, ∃ vs : List Value, h y = some (.inr (ci, vs))) {x : Nat} {vs : List Value} (hX : h x = some (.inr (ci, vs))) : kC l G m_Jx4a65c_add_7a177 6 1 200 [.ref a, .int (iI ((i : Nat) : Int)), .ref x] h (fun v h' => v = none ∧ kLx G h a ar (xs.insertIdx i x) h') kNo := by
  obtain ⟨⟨mc, hA⟩, h2⟩ := hS
  rcases h2 with ⟨e1, e2, -⟩ | ⟨g1, g2, F, hR, g3, g4⟩
  · exact w_insE hl hA e1 e2 hi hlen hci hCo hc3 hEs hX
  · by_cases q : c = xs.length
    · exact w_insF hl hA ⟨g1, g2⟩ hR g3 g4 q hi hlen hci hCo hc3 hEs hX
    · exact w_insN hl hA ⟨g1, g2⟩ hR g3 g4 (by omega) hi hlen hci hCo hc3 hEs hX
