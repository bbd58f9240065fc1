/-! ===== the class: a day takes a date, drops one, walked ===== -/
theorem w_drop {l : Launch} {G : kG} {h : kAH} (hl : l.stackTraces = false) {a dl ar c : Nat} {xs : List Nat} (hD : h a = some (.inr (5, [.ref dl]))) (hS : kLs G h dl ar c xs) (hlen : xs.length ≤ 1000) (hEs : ∀ y ∈ xs, ∃ vs : List Value, h y = some (.inr (4, vs))) {x : Nat} : kC l G m_X1_drop 4 0 0 [.ref a, .ref x] h (fun v h' => v = none ∧ ((x ∉ xs ∧ h' = h) ∨ ∃ i : Nat, xs[i]? = some x ∧ kLx G h dl ar (xs.eraseIdx i) h')) kNo := by
  refine kC_of hl rfl rfl (Nat.le_of_ble_eq_true rfl) (L := [some (.ref a), some (.ref x), none]) rfl ?_
  obtain ⟨mcA, hA0⟩ := hS.1
  refine k_iconst (pc1 := 1) dX1_drop_0 rfl ?_
  refine k_istore_n (pc1 := 2) dX1_drop_1 rfl (by decide) (k_loc (L' := [some (.ref a), some (.ref x), some (.int (iI 0))]) rfl ?_)
  have hloop2 : ∀ (zz : Nat) (i : Nat), zz = xs.length - i → (i ≤ xs.length) → (∀ j : Nat, j < i → xs[j]? ≠ some x) → kW l G m_X1_drop 4 (fun v h' => v = none ∧ ((x ∉ xs ∧ h' = h) ∨ ∃ i : Nat, xs[i]? = some x ∧ kLx G h dl ar (xs.eraseIdx i) h')) kNo 0 0 2 [some (.ref a), some (.ref x), some (.int (iI ((i : Nat) : Int)))] [] h := by
    intro zz
    induction zz using Nat.strongRecOn with
    | ind zz ih2 =>
    intro i hr2 hi9 hJ
    refine k_iload_n (pc1 := 3) dX1_drop_2 rfl rfl ?_
    refine k_aload_n (pc1 := 4) dX1_drop_3 rfl rfl ?_
    refine k_get (pc1 := 7) dX1_drop_4 rfl fd_RX1_10 hD (v := .ref dl) rfl ?_
    refine k_callVP dX1_drop_7 rfl lk_RX1_16 o_Jx4a65c_size_8abf5 (w_lsz hl hS) (as := []) hA0 rfl rfl rfl rfl (by decide) (by decide) (k8 rfl) ?_
    refine k_icmp_ge (a := ((i : Nat) : Int)) (b := ((xs.length : Nat) : Int)) dX1_drop_10 rfl (tgt := 41) rfl (by omega) (by omega) (fun c10 : ((xs.length : Nat) : Int) ≤ ((i : Nat) : Int) => ?_) (fun c10 : ((i : Nat) : Int) < ((xs.length : Nat) : Int) => ?_)
    · skip
      exact k_vret dX1_drop_41 rfl ⟨rfl, Or.inl ⟨fun z => by obtain ⟨j, hj, ej⟩ := List.getElem_of_mem z; exact hJ j (by omega) (by rw [List.getElem?_eq_getElem hj, ej]), rfl⟩⟩
    · skip
      obtain ⟨yi, hyi⟩ : ∃ y, xs[i]? = some y := ⟨xs[i]'(by omega), List.getElem?_eq_getElem (by omega)⟩
      refine k_aload_n (pc1 := 14) dX1_drop_13 rfl rfl ?_
      refine k_get (pc1 := 17) dX1_drop_14 rfl fd_RX1_10 hD (v := .ref dl) rfl ?_
      refine k_iload_n (pc1 := 18) dX1_drop_17 rfl rfl ?_
      refine k_callVP dX1_drop_18 rfl lk_RX1_20 o_Jx4a65c_get_915e3 (w_lgt hl hS ((i : Nat) : Int) ⟨by omega, by omega⟩ hyi) (as := [.int (iI ((i : Nat) : Int))]) hA0 rfl rfl rfl rfl (by decide) (by decide) (k8 rfl) ?_
      refine k_aload_n (pc1 := 22) dX1_drop_21 rfl rfl ?_
      refine k_acmp_ne (rx := (some yi)) (ry := (some x)) dX1_drop_22 rfl (tgt := 35) rfl (fun c22 : (some yi) ≠ (some x) => ?_) (fun c22 : (some yi) = (some x) => ?_)
      · skip
        refine k_iinc (a := ((i : Nat) : Int)) (pc1 := 38) dX1_drop_35 rfl rfl (by decide) (k_loc (L' := [some (.ref a), some (.ref x), some (.int (iI (((i : Nat) : Int) + 1)))]) rfl ?_)
        refine k_goto dX1_drop_38 (tgt := 2) rfl ?_
        exact ih2 _ (by omega) (i + 1) rfl (by omega) (fun j hj => if e : j = i then (fun z => by subst e; rw [hyi] at z; exact c22 z) else hJ j (by omega))
      · skip
        replace c22 : yi = x := Option.some.inj c22
        refine k_aload_n (pc1 := 26) dX1_drop_25 rfl rfl ?_
        refine k_get (pc1 := 29) dX1_drop_26 rfl fd_RX1_10 hD (v := .ref dl) rfl ?_
        refine k_iload_n (pc1 := 30) dX1_drop_29 rfl rfl ?_
        refine k_callV dX1_drop_30 rfl lk_RX1_40 o_Jx4a65c_remove_915e3 (as := [.int (iI ((i : Nat) : Int))]) rfl rfl hA0 rfl rfl (w_lrem hl hS (i := i) (by omega) (ci := 4) rfl (by decide) (by decide) hEs (x := x) (by rw [hyi, c22])) (by decide) (by decide) (Nat.zero_le _) (Nat.zero_le _) (k8 rfl) (fun v h1 hv => ?_) (fun E h9 z => z.elim)
        obtain ⟨hv1, hv2⟩ := hv
        subst hv1
        refine k_st (st' := [.ref x]) rfl ?_
        refine k_pop (pc1 := 34) dX1_drop_33 rfl rfl ?_
        exact k_vret dX1_drop_34 rfl ⟨rfl, Or.inr ⟨i, by rw [hyi, c22], hv2⟩⟩
  exact hloop2 _ 0 rfl (by omega) (fun j hj => absurd hj (by omega))
theorem w_take {l : Launch} {G : kG} {h : kAH} (hl : l.stackTraces = false) {a dl ar c : Nat} {xs : List Nat} (hD : h a = some (.inr (5, [.ref dl]))) (hS : kLs G h dl ar c xs) (hlen : xs.length ≤ 100) {T : Nat → Int} (hT : ∀ (i y : Nat), xs[i]? = some y → ∃ (m s r : Nat) (c k n : Int), h y = some (.inr (4, [.ref m, .ref s, .ref r, .int (iI c)])) ∧ h s = some (.inr (8, [.int (iI k), .int (iI (T i)), .int (iI n)])) ∧ 0 ≤ T i ∧ T i ≤ 100) {x m0 sx r0 : Nat} {c0 kx t nx : Int} (hX : h x = some (.inr (4, [.ref m0, .ref sx, .ref r0, .int (iI c0)]))) (hSx : h sx = some (.inr (8, [.int (iI kx), .int (iI t), .int (iI nx)]))) (ht : 0 ≤ t ∧ t ≤ 100) : kC l G m_X1_take 7 1 200 [.ref a, .ref x] h (fun v h' => v = none ∧ ∃ i : Nat, i ≤ xs.length ∧ (∀ j : Nat, j < i → T j < t) ∧ (i < xs.length → t ≤ T i) ∧ kLx G h dl ar (xs.insertIdx i x) h') kNo := by
  have hEs : ∀ y ∈ xs, ∃ vs : List Value, h y = some (.inr (4, vs)) := fun y z => by
    obtain ⟨j, hj, ej⟩ := List.getElem_of_mem z
    obtain ⟨mi, si, ri, ci, ki, ni, hYi, -⟩ := hT j y (by rw [List.getElem?_eq_getElem hj, ej])
    exact ⟨_, hYi⟩
  refine kC_of hl rfl rfl (Nat.le_of_ble_eq_true rfl) (L := [some (.ref a), some (.ref x), none]) rfl ?_
  obtain ⟨mcA, hA0⟩ := hS.1
  refine k_iconst (pc1 := 1) dX1_take_0 rfl ?_
  refine k_istore_n (pc1 := 2) dX1_take_1 rfl (by decide) (k_loc (L' := [some (.ref a), some (.ref x), some (.int (iI 0))]) rfl ?_)
  have hloop2 : ∀ (zz : Nat) (i : Nat), zz = xs.length - i → (i ≤ xs.length) → (∀ j : Nat, j < i → T j < t) → kW l G m_X1_take 7 (fun v h' => v = none ∧ ∃ i : Nat, i ≤ xs.length ∧ (∀ j : Nat, j < i → T j < t) ∧ (i < xs.length → t ≤ T i) ∧ kLx G h dl ar (xs.insertIdx i x) h') kNo 1 200 2 [some (.ref a), some (.ref x), some (.int (iI ((i : Nat) : Int)))] [] h := by
    intro zz
    induction zz using Nat.strongRecOn with
    | ind zz ih2 =>
    intro i hr2 hi9 hJ
    refine k_iload_n (pc1 := 3) dX1_take_2 rfl rfl ?_
    refine k_aload_n (pc1 := 4) dX1_take_3 rfl rfl ?_
    refine k_get (pc1 := 7) dX1_take_4 rfl fd_RX1_10 hD (v := .ref dl) rfl ?_
    refine k_callVP dX1_take_7 rfl lk_RX1_16 o_Jx4a65c_size_8abf5 (w_lsz hl hS) (as := []) hA0 rfl rfl rfl rfl (by decide) (by decide) (k8 rfl) ?_
    refine k_icmp_ge (a := ((i : Nat) : Int)) (b := ((xs.length : Nat) : Int)) dX1_take_10 rfl (tgt := 46) rfl (by omega) (by omega) (fun c10 : ((xs.length : Nat) : Int) ≤ ((i : Nat) : Int) => ?_) (fun c10 : ((i : Nat) : Int) < ((xs.length : Nat) : Int) => ?_)
    · skip
      refine k_aload_n (pc1 := 47) dX1_take_46 rfl rfl ?_
      refine k_get (pc1 := 50) dX1_take_47 rfl fd_RX1_10 hD (v := .ref dl) rfl ?_
      refine k_iload_n (pc1 := 51) dX1_take_50 rfl rfl ?_
      refine k_aload_n (pc1 := 52) dX1_take_51 rfl rfl ?_
      refine k_callV dX1_take_52 rfl lk_RX1_36 o_Jx4a65c_add_7a177 (as := [.int (iI ((i : Nat) : Int)), .ref x]) rfl rfl hA0 rfl rfl (w_lins hl hS (i := i) (by omega) hlen (ci := 4) rfl (by decide) (by decide) hEs hX) (by decide) (by decide) (by decide) (by decide) (k8 rfl) (fun v h1 hv => ?_) (fun E h9 z => z.elim)
      obtain ⟨hv1, hv2⟩ := hv
      subst hv1
      refine k_st (st' := []) rfl ?_
      exact k_vret dX1_take_55 rfl ⟨rfl, i, hi9, hJ, (fun _ => by omega), hv2⟩
    · skip
      obtain ⟨yi, hyi⟩ : ∃ y, xs[i]? = some y := ⟨xs[i]'(by omega), List.getElem?_eq_getElem (by omega)⟩
      obtain ⟨mi, si, ri, ci, ki, ni, hYi, hSi, hTi⟩ := hT i yi hyi
      refine k_aload_n (pc1 := 14) dX1_take_13 rfl rfl ?_
      refine k_get (pc1 := 17) dX1_take_14 rfl fd_RX1_10 hD (v := .ref dl) rfl ?_
      refine k_iload_n (pc1 := 18) dX1_take_17 rfl rfl ?_
      refine k_callVP dX1_take_18 rfl lk_RX1_20 o_Jx4a65c_get_915e3 (w_lgt hl hS ((i : Nat) : Int) ⟨by omega, by omega⟩ hyi) (as := [.int (iI ((i : Nat) : Int))]) hA0 rfl rfl rfl rfl (by decide) (by decide) (k8 rfl) ?_
      refine k_cast (r := (RX0, TX0, 4)) (pc1 := 24) dX1_take_21 rfl cl_RX1_24 hYi rfl ?_
      refine k_get (pc1 := 27) dX1_take_24 rfl fd_RX1_26 hYi (v := .ref si) rfl ?_
      refine k_get (pc1 := 30) dX1_take_27 rfl fd_RX1_30 hSi (v := .int (iI (T i))) rfl ?_
      refine k_aload_n (pc1 := 31) dX1_take_30 rfl rfl ?_
      refine k_get (pc1 := 34) dX1_take_31 rfl fd_RX1_26 hX (v := .ref sx) rfl ?_
      refine k_get (pc1 := 37) dX1_take_34 rfl fd_RX1_30 hSx (v := .int (iI t)) rfl ?_
      refine k_icmp_ge (a := (T i)) (b := t) dX1_take_37 rfl (tgt := 46) rfl (by omega) (by omega) (fun c37 : t ≤ (T i) => ?_) (fun c37 : (T i) < t => ?_)
      · skip
        refine k_aload_n (pc1 := 47) dX1_take_46 rfl rfl ?_
        refine k_get (pc1 := 50) dX1_take_47 rfl fd_RX1_10 hD (v := .ref dl) rfl ?_
        refine k_iload_n (pc1 := 51) dX1_take_50 rfl rfl ?_
        refine k_aload_n (pc1 := 52) dX1_take_51 rfl rfl ?_
        refine k_callV dX1_take_52 rfl lk_RX1_36 o_Jx4a65c_add_7a177 (as := [.int (iI ((i : Nat) : Int)), .ref x]) rfl rfl hA0 rfl rfl (w_lins hl hS (i := i) (by omega) hlen (ci := 4) rfl (by decide) (by decide) hEs hX) (by decide) (by decide) (by decide) (by decide) (k8 rfl) (fun v h1 hv => ?_) (fun E h9 z => z.elim)
        obtain ⟨hv1, hv2⟩ := hv
        subst hv1
        refine k_st (st' := []) rfl ?_
        exact k_vret dX1_take_55 rfl ⟨rfl, i, hi9, hJ, (fun _ => by omega), hv2⟩
      · skip
        refine k_iinc (a := ((i : Nat) : Int)) (pc1 := 43) dX1_take_40 rfl rfl (by decide) (k_loc (L' := [some (.ref a), some (.ref x), some (.int (iI (((i : Nat) : Int) + 1)))]) rfl ?_)
        refine k_goto dX1_take_43 (tgt := 2) rfl ?_
        exact ih2 _ (by omega) (i + 1) rfl (by omega) (fun j hj => if e : j = i then (by subst e; omega) else hJ j (by omega))
  exact hloop2 _ 0 rfl (by omega) (fun j hj => absurd hj (by omega))
