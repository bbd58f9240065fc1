theorem ysF_r {f : Nat → Int} (h : 0 ≤ f 1 ∧ f 1 ≤ 8) : 0 ≤ ysF f ∧ ysF f ≤ alF f ∧ alF f ≤ 48 := by
  have h1 : ∀ m : Nat, 0 ≤ ksm (fun p => kB (oF f (m : Int) (4 + (p : Int)) = 121)) 6 := fun m => by
    have := (ksm_rng (f := fun p => kB (oF f (m : Int) (4 + (p : Int)) = 121)) (n := 6) (lo := 0) (hi := 1) (fun j _ => kB_rng _)).1
    omega
  have h2 : ∀ m : Nat, ksm (fun p => kB (oF f (m : Int) (4 + (p : Int)) = 121 ∨ oF f (m : Int) (4 + (p : Int)) = 110)) 6 ≤ 6 := fun m => by
    have := (ksm_rng (f := fun p => kB (oF f (m : Int) (4 + (p : Int)) = 121 ∨ oF f (m : Int) (4 + (p : Int)) = 110)) (n := 6) (lo := 0) (hi := 1) (fun j _ => kB_rng _)).2
    omega
  have h3 : ∀ n m : Nat, ksm (fun p => kB (oF f (m : Int) (4 + (p : Int)) = 121)) n ≤ ksm (fun p => kB (oF f (m : Int) (4 + (p : Int)) = 121 ∨ oF f (m : Int) (4 + (p : Int)) = 110)) n := fun n m => by
    induction n with
    | zero => exact Int.le_refl _
    | succ n ih =>
      rw [ksm, ksm]
      have : kB (oF f (m : Int) (4 + (n : Int)) = 121) ≤ kB (oF f (m : Int) (4 + (n : Int)) = 121 ∨ oF f (m : Int) (4 + (n : Int)) = 110) := by
        by_cases c : oF f (m : Int) (4 + (n : Int)) = 121
        · rw [kB_t c, kB_t (Or.inl c)]; exact Int.le_refl _
        · rw [kB_f c]; exact (kB_rng _).1
      omega
  have h4 : ∀ n : Nat, 0 ≤ ksm (fun m => ksm (fun p => kB (oF f (m : Int) (4 + (p : Int)) = 121)) 6) n ∧ ksm (fun m => ksm (fun p => kB (oF f (m : Int) (4 + (p : Int)) = 121)) 6) n ≤ ksm (fun m => ksm (fun p => kB (oF f (m : Int) (4 + (p : Int)) = 121 ∨ oF f (m : Int) (4 + (p : Int)) = 110)) 6) n ∧ ksm (fun m => ksm (fun p => kB (oF f (m : Int) (4 + (p : Int)) = 121 ∨ oF f (m : Int) (4 + (p : Int)) = 110)) 6) n ≤ 6 * (n : Int) := fun n => by
    induction n with
    | zero => exact ⟨Int.le_refl _, Int.le_refl _, by show (0 : Int) ≤ _; omega⟩
    | succ n ih =>
      have u1 : ksm (fun m => ksm (fun p => kB (oF f (m : Int) (4 + (p : Int)) = 121)) 6) (n + 1) = ksm (fun m => ksm (fun p => kB (oF f (m : Int) (4 + (p : Int)) = 121)) 6) n + ksm (fun p => kB (oF f (n : Int) (4 + (p : Int)) = 121)) 6 := rfl
      have u2 : ksm (fun m => ksm (fun p => kB (oF f (m : Int) (4 + (p : Int)) = 121 ∨ oF f (m : Int) (4 + (p : Int)) = 110)) 6) (n + 1) = ksm (fun m => ksm (fun p => kB (oF f (m : Int) (4 + (p : Int)) = 121 ∨ oF f (m : Int) (4 + (p : Int)) = 110)) 6) n + ksm (fun p => kB (oF f (n : Int) (4 + (p : Int)) = 121 ∨ oF f (n : Int) (4 + (p : Int)) = 110)) 6 := rfl
      have a1 := h1 n
      have a2 := h2 n
      have a3 := h3 6 n
      omega
  have := h4 (f 1).toNat
  unfold ysF alF
  omega
theorem w_X6_isConsistent {l : Launch} {G : kG} {h : kAH} {o g r : Nat} {c : Int} {f : Nat → Int} (hl : l.stackTraces = false) (hM : kMd G h o g r c (-1) (-1) f) (hW : kWf f)  : kC l G m_X6_isConsistent 5 0 0 [.ref o] h (kMt G o g r (((0, 1, f) : kT)) h) kNo := by
  have hwm : -1 ≤ (-1 : Int) ∧ (-1 : Int) < 8 := by decide
  have hwd : -1 ≤ (-1 : Int) ∧ (-1 : Int) < 6 := by decide
  have h8 := kWf_cnt hW
  have h9 := kWf_nxt hW
  refine kC_of hl rfl rfl (Nat.le_of_ble_eq_true rfl) (L := [some (.ref o), none, none, none]) rfl ?_
  refine k_aload_n (pc1 := 1) dX6_isConsistent_0 rfl rfl ?_
  refine k_iconst (pc1 := 2) dX6_isConsistent_1 rfl ?_
  refine k_putM1 (pc1 := 5) (x := 0) rfl dX6_isConsistent_2 rfl hM (fun h188 hM188 hX188 => ?_)
  have hF188 := kFm_tr (kFm_rf o g r h) hX188
  refine k_iconst (pc1 := 6) dX6_isConsistent_5 rfl ?_
  refine k_istore_n (pc1 := 7) dX6_isConsistent_6 rfl (by decide) (k_loc (L' := [some (.ref o), some (.int (iI 0)), none, none]) rfl ?_)
  have hloop7 : ∀ (zz : Nat) (i : Nat), zz = 6 - i → (i ≤ 6) → kW l G m_X6_isConsistent 5 (kMt G o g r (((0, 1, f) : kT)) h) kNo 0 0 7 [some (.ref o), some (.int (iI ((i : Nat) : Int))), none, none] [] h188 := by
    intro zz
    induction zz using Nat.strongRecOn with
    | ind zz ih7 =>
    intro i hr7 hi
    refine k_iload_n (pc1 := 8) dX6_isConsistent_7 rfl rfl ?_
    refine k_bipush 6 (pc1 := 10) dX6_isConsistent_8 rfl (by decide) ?_
    refine k_icmp_ge (a := ((i : Nat) : Int)) (b := 6) dX6_isConsistent_10 rfl (tgt := 85) rfl (by omega) (by decide) (fun c10 : 6 ≤ ((i : Nat) : Int) => ?_) (fun c10 : ((i : Nat) : Int) < 6 => ?_)
    · skip
      refine k_iconst (pc1 := 86) dX6_isConsistent_85 rfl ?_
      exact k_iret dX6_isConsistent_86 rfl rfl (kMt_mk (c1 := 0) (v1 := 1) (f1 := f) rfl hM188 hF188)
    · skip
      refine k_iconst (pc1 := 14) dX6_isConsistent_13 rfl ?_
      refine k_istore_n (pc1 := 15) dX6_isConsistent_14 rfl (by decide) (k_loc (L' := [some (.ref o), some (.int (iI ((i : Nat) : Int))), some (.int (iI 0)), none]) rfl ?_)
      have hloop15 : ∀ (zz : Nat) (m : Int), zz = (f 1 - m).toNat → (0 ≤ m) → (m ≤ f 1) → kW l G m_X6_isConsistent 5 (kMt G o g r (((0, 1, f) : kT)) h) kNo 0 0 15 [some (.ref o), some (.int (iI ((i : Nat) : Int))), some (.int (iI m)), none] [] h188 := by
        intro zz
        induction zz using Nat.strongRecOn with
        | ind zz ih15 =>
        intro m hr15 hm0 hm1
        refine k_iload_n (pc1 := 16) dX6_isConsistent_15 rfl rfl ?_
        refine k_aload_n (pc1 := 17) dX6_isConsistent_16 rfl rfl ?_
        refine k_get (pc1 := 20) dX6_isConsistent_17 rfl fd_RX6_7 hM188.1 (v := .ref g) rfl ?_
        refine k_iconst (pc1 := 21) dX6_isConsistent_20 rfl ?_
        refine k_iald (i := 1) (f := f) (pc1 := 22) dX6_isConsistent_21 rfl hM188.2.1 (N := 380) (by omega) (by omega) (by decide) (k_val (v' := .int (iI (f 1))) rfl ?_)
        refine k_icmp_ge (a := m) (b := (f 1)) dX6_isConsistent_22 rfl (tgt := 79) rfl (by omega) (by omega) (fun c22 : (f 1) ≤ m => ?_) (fun c22 : m < (f 1) => ?_)
        · skip
          refine k_iinc (a := ((i : Nat) : Int)) (pc1 := 82) dX6_isConsistent_79 rfl rfl (by decide) (k_loc (L' := [some (.ref o), some (.int (iI (((i : Nat) : Int) + 1))), some (.int (iI m)), none]) rfl ?_)
          refine k_goto dX6_isConsistent_82 (tgt := 7) rfl ?_
          refine k_forget 2 (k_loc (L' := [some (.ref o), some (.int (iI (((i : Nat) : Int) + 1))), none, none]) rfl ?_)
          exact ih7 _ (by omega) (i + 1) rfl (by omega)
        · skip
          have hm := kWf_m hW hm0 c22
          refine k_iconst (pc1 := 26) dX6_isConsistent_25 rfl ?_
          refine k_istore_n (pc1 := 27) dX6_isConsistent_26 rfl (by decide) (k_loc (L' := [some (.ref o), some (.int (iI ((i : Nat) : Int))), some (.int (iI m)), some (.int (iI 0))]) rfl ?_)
          have hloop27 : ∀ (zz : Nat) (dt : Int), zz = (oF f m 3 - dt).toNat → (0 ≤ dt) → (dt ≤ oF f m 3) → kW l G m_X6_isConsistent 5 (kMt G o g r (((0, 1, f) : kT)) h) kNo 0 0 27 [some (.ref o), some (.int (iI ((i : Nat) : Int))), some (.int (iI m)), some (.int (iI dt))] [] h188 := by
            intro zz
            induction zz using Nat.strongRecOn with
            | ind zz ih27 =>
            intro dt hr27 hd0 hd1
            refine k_iload_n (pc1 := 28) dX6_isConsistent_27 rfl rfl ?_
            refine k_aload_n (pc1 := 29) dX6_isConsistent_28 rfl rfl ?_
            refine k_iload_n (pc1 := 30) dX6_isConsistent_29 rfl rfl ?_
            refine k_iconst (pc1 := 31) dX6_isConsistent_30 rfl ?_
            refine k_callVP dX6_isConsistent_31 rfl lk_RX6_37 o_X6_of (w_X6_of hl hM188 m 3 (by omega) (by omega)) (as := [.int (iI m), .int (iI 3)]) hM188.1 rfl rfl rfl rfl (by decide) (by decide) (k8 rfl) ?_
            refine k_icmp_ge (a := dt) (b := (oF f m 3)) dX6_isConsistent_34 rfl (tgt := 73) rfl (by omega) (by omega) (fun c34 : (oF f m 3) ≤ dt => ?_) (fun c34 : dt < (oF f m 3) => ?_)
            · skip
              refine k_iinc (a := m) (pc1 := 76) dX6_isConsistent_73 rfl rfl (by decide) (k_loc (L' := [some (.ref o), some (.int (iI ((i : Nat) : Int))), some (.int (iI (m + 1))), some (.int (iI dt))]) rfl ?_)
              refine k_goto dX6_isConsistent_76 (tgt := 15) rfl ?_
              refine k_forget 3 (k_loc (L' := [some (.ref o), some (.int (iI ((i : Nat) : Int))), some (.int (iI (m + 1))), none]) rfl ?_)
              exact ih15 _ (by omega) (m + 1) rfl (by omega) (by omega)
            · skip
              have hi2 : inP f m dt := ⟨hm0, c22, hd0, c34⟩
              refine k_aload_n (pc1 := 38) dX6_isConsistent_37 rfl rfl ?_
              refine k_iload_n (pc1 := 39) dX6_isConsistent_38 rfl rfl ?_
              refine k_iload_n (pc1 := 40) dX6_isConsistent_39 rfl rfl ?_
              refine k_callVP dX6_isConsistent_40 rfl lk_RX6_49 o_X6_isOn (w_X6_isOn hl hM188 m dt hW ⟨by omega, by omega, by omega, by omega⟩) (as := [.int (iI m), .int (iI dt)]) hM188.1 rfl rfl rfl rfl (by decide) (by decide) (k8 rfl) ?_
              refine k_if_eq (a := kB (onF f m dt)) dX6_isConsistent_43 rfl (tgt := 67) rfl (kB_r _) (fun c43 : kB (onF f m dt) = 0 => ?_) (fun c43 : kB (onF f m dt) ≠ 0 => ?_)
              · replace c43 : ¬(onF f m dt) := kB_z.mp c43
                refine k_iinc (a := dt) (pc1 := 70) dX6_isConsistent_67 rfl rfl (by decide) (k_loc (L' := [some (.ref o), some (.int (iI ((i : Nat) : Int))), some (.int (iI m)), some (.int (iI (dt + 1)))]) rfl ?_)
                refine k_goto dX6_isConsistent_70 (tgt := 27) rfl ?_
                exact ih27 _ (by omega) (dt + 1) rfl (by omega) (by omega)
              · replace c43 : (onF f m dt) := kB_nz.mp c43
                refine k_aload_n (pc1 := 47) dX6_isConsistent_46 rfl rfl ?_
                refine k_iload_n (pc1 := 48) dX6_isConsistent_47 rfl rfl ?_
                refine k_iload_n (pc1 := 49) dX6_isConsistent_48 rfl rfl ?_
                refine k_callVP dX6_isConsistent_49 rfl lk_RX6_41 o_X6_isExpected (w_X6_isExpected hl hM188 m ((i : Nat) : Int) hW (by omega) (by omega) (by omega) (by omega)) (as := [.int (iI m), .int (iI ((i : Nat) : Int))]) hM188.1 rfl rfl rfl rfl (by decide) (by decide) (k8 rfl) ?_
                refine k_if_eq (a := kB (exF f m ((i : Nat) : Int))) dX6_isConsistent_52 rfl (tgt := 67) rfl (kB_r _) (fun c52 : kB (exF f m ((i : Nat) : Int)) = 0 => ?_) (fun c52 : kB (exF f m ((i : Nat) : Int)) ≠ 0 => ?_)
                · replace c52 : ¬(exF f m ((i : Nat) : Int)) := kB_z.mp c52
                  refine k_iinc (a := dt) (pc1 := 70) dX6_isConsistent_67 rfl rfl (by decide) (k_loc (L' := [some (.ref o), some (.int (iI ((i : Nat) : Int))), some (.int (iI m)), some (.int (iI (dt + 1)))]) rfl ?_)
                  refine k_goto dX6_isConsistent_70 (tgt := 27) rfl ?_
                  exact ih27 _ (by omega) (dt + 1) rfl (by omega) (by omega)
                · replace c52 : (exF f m ((i : Nat) : Int)) := kB_nz.mp c52
                  refine k_aload_n (pc1 := 56) dX6_isConsistent_55 rfl rfl ?_
                  refine k_iload_n (pc1 := 57) dX6_isConsistent_56 rfl rfl ?_
                  refine k_iload_n (pc1 := 58) dX6_isConsistent_57 rfl rfl ?_
                  refine k_iload_n (pc1 := 59) dX6_isConsistent_58 rfl rfl ?_
                  refine k_callVP dX6_isConsistent_59 rfl lk_RX6_129 o_X6_meetsItself (w_X6_meetsItself hl hM188 m dt ((i : Nat) : Int) hW ⟨by omega, by omega, by omega, by omega⟩ ⟨by omega, by omega⟩) (as := [.int (iI m), .int (iI dt), .int (iI ((i : Nat) : Int))]) hM188.1 rfl rfl rfl rfl (by decide) (by decide) (k8 rfl) ?_
                  refine k_if_eq (a := kB (miF f m dt ((i : Nat) : Int))) dX6_isConsistent_62 rfl (tgt := 67) rfl (kB_r _) (fun c62 : kB (miF f m dt ((i : Nat) : Int)) = 0 => ?_) (fun c62 : kB (miF f m dt ((i : Nat) : Int)) ≠ 0 => ?_)
                  · replace c62 : ¬(miF f m dt ((i : Nat) : Int)) := kB_z.mp c62
                    refine k_iinc (a := dt) (pc1 := 70) dX6_isConsistent_67 rfl rfl (by decide) (k_loc (L' := [some (.ref o), some (.int (iI ((i : Nat) : Int))), some (.int (iI m)), some (.int (iI (dt + 1)))]) rfl ?_)
                    refine k_goto dX6_isConsistent_70 (tgt := 27) rfl ?_
                    exact ih27 _ (by omega) (dt + 1) rfl (by omega) (by omega)
                  · replace c62 : (miF f m dt ((i : Nat) : Int)) := kB_nz.mp c62
                    refine k_iconst (pc1 := 66) dX6_isConsistent_65 rfl ?_
                    exact absurd c62 (wf_mi hW ⟨by omega, by omega⟩ hi2 c43 c52)
          exact hloop27 _ 0 rfl (by omega) (by omega)
      exact hloop15 _ 0 rfl (by omega) (by omega)
  exact hloop7 _ 0 rfl (by omega)
theorem w_X6_sittings {l : Launch} {G : kG} {h : kAH} {o g r : Nat} {c : Int} {f : Nat → Int} (hl : l.stackTraces = false) (hM : kMd G h o g r c (-1) (-1) f) (hW : kWf f)  : kC l G m_X6_sittings 4 0 0 [.ref o] h (kMq G o g r (some (.long (Int32.toInt64 (iI (stF f))))) 0 (-1) (-1) f h) kNo := by
  have h8 := kWf_cnt hW
  have h9 := kWf_nxt hW
  refine kC_of hl rfl rfl (Nat.le_of_ble_eq_true rfl) (L := [some (.ref o), none, none, none]) rfl ?_
  refine k_aload_n (pc1 := 1) dX6_sittings_0 rfl rfl ?_
  refine k_iconst (pc1 := 2) dX6_sittings_1 rfl ?_
  refine k_putM1 (pc1 := 5) (x := 0) rfl dX6_sittings_2 rfl hM (fun h189 hM189 hX189 => ?_)
  have hF189 := kFm_tr (kFm_rf o g r h) hX189
  refine k_iconst (pc1 := 6) dX6_sittings_5 rfl ?_
  refine k_istore_n (pc1 := 7) dX6_sittings_6 rfl (by decide) (k_loc (L' := [some (.ref o), some (.int (iI 0)), none, none]) rfl ?_)
  refine k_iconst (pc1 := 8) dX6_sittings_7 rfl ?_
  refine k_istore_n (pc1 := 9) dX6_sittings_8 rfl (by decide) (k_loc (L' := [some (.ref o), some (.int (iI 0)), some (.int (iI 0)), none]) rfl ?_)
  have hloop9 : ∀ (zz : Nat) (i : Nat), zz = (f 1 - ((i : Nat) : Int)).toNat → (((i : Nat) : Int) ≤ f 1) → kW l G m_X6_sittings 4 (kMq G o g r (some (.long (Int32.toInt64 (iI (stF f))))) 0 (-1) (-1) f h) kNo 0 0 9 [some (.ref o), some (.int (iI (ksm (fun m => ksm (fun d => kI (onF f (m : Int) (d : Int)) (oF f (m : Int) 2 * kpo (ppF f (m : Int)) 6) 0) (oF f (m : Int) 3).toNat) i))), some (.int (iI ((i : Nat) : Int))), none] [] h189 := by
    intro zz
    induction zz using Nat.strongRecOn with
    | ind zz ih9 =>
    intro i hr9 hi
    refine k_iload_n (pc1 := 10) dX6_sittings_9 rfl rfl ?_
    refine k_aload_n (pc1 := 11) dX6_sittings_10 rfl rfl ?_
    refine k_get (pc1 := 14) dX6_sittings_11 rfl fd_RX6_7 hM189.1 (v := .ref g) rfl ?_
    refine k_iconst (pc1 := 15) dX6_sittings_14 rfl ?_
    refine k_iald (i := 1) (f := f) (pc1 := 16) dX6_sittings_15 rfl hM189.2.1 (N := 380) (by omega) (by omega) (by decide) (k_val (v' := .int (iI (f 1))) rfl ?_)
    refine k_icmp_ge (a := ((i : Nat) : Int)) (b := (f 1)) dX6_sittings_16 rfl (tgt := 74) rfl (by omega) (by omega) (fun c16 : (f 1) ≤ ((i : Nat) : Int) => ?_) (fun c16 : ((i : Nat) : Int) < (f 1) => ?_)
    · skip
      refine k_iload_n (pc1 := 75) dX6_sittings_74 rfl rfl ?_
      refine k_i2l (pc1 := 76) dX6_sittings_75 rfl ?_
      have ei : i = (f 1).toNat := by omega
      subst ei
      exact k_lret dX6_sittings_76 rfl ⟨rfl, hM189, hF189⟩
    · skip
      have hm := kWf_m hW (m := ((i : Nat) : Int)) (by omega) (by omega)
      refine k_iconst (pc1 := 20) dX6_sittings_19 rfl ?_
      refine k_istore_n (pc1 := 21) dX6_sittings_20 rfl (by decide) (k_loc (L' := [some (.ref o), some (.int (iI (ksm (fun m => ksm (fun d => kI (onF f (m : Int) (d : Int)) (oF f (m : Int) 2 * kpo (ppF f (m : Int)) 6) 0) (oF f (m : Int) 3).toNat) i))), some (.int (iI ((i : Nat) : Int))), some (.int (iI 0))]) rfl ?_)
      have hloop21 : ∀ (zz : Nat) (j : Nat), zz = (oF f ((i : Nat) : Int) 3 - ((j : Nat) : Int)).toNat → (((j : Nat) : Int) ≤ oF f ((i : Nat) : Int) 3) → kW l G m_X6_sittings 4 (kMq G o g r (some (.long (Int32.toInt64 (iI (stF f))))) 0 (-1) (-1) f h) kNo 0 0 21 [some (.ref o), some (.int (iI ((ksm (fun m => ksm (fun d => kI (onF f (m : Int) (d : Int)) (oF f (m : Int) 2 * kpo (ppF f (m : Int)) 6) 0) (oF f (m : Int) 3).toNat) i) + ksm (fun d => kI (onF f ((i : Nat) : Int) (d : Int)) (oF f ((i : Nat) : Int) 2 * kpo (ppF f ((i : Nat) : Int)) 6) 0) j))), some (.int (iI ((i : Nat) : Int))), some (.int (iI ((j : Nat) : Int)))] [] h189 := by
        intro zz
        induction zz using Nat.strongRecOn with
        | ind zz ih21 =>
        intro j hr21 hj
        refine k_iload_n (pc1 := 22) dX6_sittings_21 rfl rfl ?_
        refine k_aload_n (pc1 := 23) dX6_sittings_22 rfl rfl ?_
        refine k_iload_n (pc1 := 24) dX6_sittings_23 rfl rfl ?_
        refine k_iconst (pc1 := 25) dX6_sittings_24 rfl ?_
        refine k_callVP dX6_sittings_25 rfl lk_RX6_37 o_X6_of (w_X6_of hl hM189 ((i : Nat) : Int) 3 (by omega) (by omega)) (as := [.int (iI ((i : Nat) : Int)), .int (iI 3)]) hM189.1 rfl rfl rfl rfl (by decide) (by decide) (k8 rfl) ?_
        refine k_icmp_ge (a := ((j : Nat) : Int)) (b := (oF f ((i : Nat) : Int) 3)) dX6_sittings_28 rfl (tgt := 68) rfl (by omega) (by omega) (fun c28 : (oF f ((i : Nat) : Int) 3) ≤ ((j : Nat) : Int) => ?_) (fun c28 : ((j : Nat) : Int) < (oF f ((i : Nat) : Int) 3) => ?_)
        · skip
          refine k_iinc (a := ((i : Nat) : Int)) (pc1 := 71) dX6_sittings_68 rfl rfl (by decide) (k_loc (L' := [some (.ref o), some (.int (iI ((ksm (fun m => ksm (fun d => kI (onF f (m : Int) (d : Int)) (oF f (m : Int) 2 * kpo (ppF f (m : Int)) 6) 0) (oF f (m : Int) 3).toNat) i) + ksm (fun d => kI (onF f ((i : Nat) : Int) (d : Int)) (oF f ((i : Nat) : Int) 2 * kpo (ppF f ((i : Nat) : Int)) 6) 0) j))), some (.int (iI (((i : Nat) : Int) + 1))), some (.int (iI ((j : Nat) : Int)))]) rfl ?_)
          refine k_goto dX6_sittings_71 (tgt := 9) rfl ?_
          refine k_forget 3 (k_loc (L' := [some (.ref o), some (.int (iI ((ksm (fun m => ksm (fun d => kI (onF f (m : Int) (d : Int)) (oF f (m : Int) 2 * kpo (ppF f (m : Int)) 6) 0) (oF f (m : Int) 3).toNat) i) + ksm (fun d => kI (onF f ((i : Nat) : Int) (d : Int)) (oF f ((i : Nat) : Int) 2 * kpo (ppF f ((i : Nat) : Int)) 6) 0) j))), some (.int (iI (((i : Nat) : Int) + 1))), none]) rfl ?_)
          have ej : j = (oF f ((i : Nat) : Int) 3).toNat := by omega
          subst ej
          exact ih9 _ (by omega) (i + 1) rfl (by omega)
        · skip
          have hi2 : inP f ((i : Nat) : Int) ((j : Nat) : Int) := ⟨by omega, by omega, by omega, by omega⟩
          refine k_iload_n (pc1 := 32) dX6_sittings_31 rfl rfl ?_
          refine k_aload_n (pc1 := 33) dX6_sittings_32 rfl rfl ?_
          refine k_iload_n (pc1 := 34) dX6_sittings_33 rfl rfl ?_
          refine k_iload_n (pc1 := 35) dX6_sittings_34 rfl rfl ?_
          refine k_callVP dX6_sittings_35 rfl lk_RX6_49 o_X6_isOn (w_X6_isOn hl hM189 ((i : Nat) : Int) ((j : Nat) : Int) hW ⟨by omega, by omega, by omega, by omega⟩) (as := [.int (iI ((i : Nat) : Int)), .int (iI ((j : Nat) : Int))]) hM189.1 rfl rfl rfl rfl (by decide) (by decide) (k8 rfl) ?_
          refine k_if_eq (a := kB (onF f ((i : Nat) : Int) ((j : Nat) : Int))) dX6_sittings_38 rfl (tgt := 59) rfl (kB_r _) (fun c38 : kB (onF f ((i : Nat) : Int) ((j : Nat) : Int)) = 0 => ?_) (fun c38 : kB (onF f ((i : Nat) : Int) ((j : Nat) : Int)) ≠ 0 => ?_)
          · replace c38 : ¬(onF f ((i : Nat) : Int) ((j : Nat) : Int)) := kB_z.mp c38
            refine k_iconst (pc1 := 60) dX6_sittings_59 rfl ?_
            refine k_iadd (a := ((ksm (fun m => ksm (fun d => kI (onF f (m : Int) (d : Int)) (oF f (m : Int) 2 * kpo (ppF f (m : Int)) 6) 0) (oF f (m : Int) 3).toNat) i) + ksm (fun d => kI (onF f ((i : Nat) : Int) (d : Int)) (oF f ((i : Nat) : Int) 2 * kpo (ppF f ((i : Nat) : Int)) 6) 0) j)) (b := 0) (pc1 := 61) dX6_sittings_60 rfl ?_
            refine k_istore_n (pc1 := 62) dX6_sittings_61 rfl (by decide) (k_loc (L' := [some (.ref o), some (.int (iI (((ksm (fun m => ksm (fun d => kI (onF f (m : Int) (d : Int)) (oF f (m : Int) 2 * kpo (ppF f (m : Int)) 6) 0) (oF f (m : Int) 3).toNat) i) + ksm (fun d => kI (onF f ((i : Nat) : Int) (d : Int)) (oF f ((i : Nat) : Int) 2 * kpo (ppF f ((i : Nat) : Int)) 6) 0) j) + 0))), some (.int (iI ((i : Nat) : Int))), some (.int (iI ((j : Nat) : Int)))]) rfl ?_)
            refine k_iinc (a := ((j : Nat) : Int)) (pc1 := 65) dX6_sittings_62 rfl rfl (by decide) (k_loc (L' := [some (.ref o), some (.int (iI (((ksm (fun m => ksm (fun d => kI (onF f (m : Int) (d : Int)) (oF f (m : Int) 2 * kpo (ppF f (m : Int)) 6) 0) (oF f (m : Int) 3).toNat) i) + ksm (fun d => kI (onF f ((i : Nat) : Int) (d : Int)) (oF f ((i : Nat) : Int) 2 * kpo (ppF f ((i : Nat) : Int)) 6) 0) j) + 0))), some (.int (iI ((i : Nat) : Int))), some (.int (iI (((j : Nat) : Int) + 1)))]) rfl ?_)
            refine k_goto dX6_sittings_65 (tgt := 21) rfl ?_
            have e : ((ksm (fun m => ksm (fun d => kI (onF f (m : Int) (d : Int)) (oF f (m : Int) 2 * kpo (ppF f (m : Int)) 6) 0) (oF f (m : Int) 3).toNat) i) + ksm (fun d => kI (onF f ((i : Nat) : Int) (d : Int)) (oF f ((i : Nat) : Int) 2 * kpo (ppF f ((i : Nat) : Int)) 6) 0) (j + 1)) = (((ksm (fun m => ksm (fun d => kI (onF f (m : Int) (d : Int)) (oF f (m : Int) 2 * kpo (ppF f (m : Int)) 6) 0) (oF f (m : Int) 3).toNat) i) + ksm (fun d => kI (onF f ((i : Nat) : Int) (d : Int)) (oF f ((i : Nat) : Int) 2 * kpo (ppF f ((i : Nat) : Int)) 6) 0) j) + 0) := by
              show _ + (ksm (fun d => kI (onF f ((i : Nat) : Int) (d : Int)) (oF f ((i : Nat) : Int) 2 * kpo (ppF f ((i : Nat) : Int)) 6) 0) j + kI _ _ _) = _
              rw [kI_f c38]
              omega
            refine k_loc (L' := [some (.ref o), some (.int (iI ((ksm (fun m => ksm (fun d => kI (onF f (m : Int) (d : Int)) (oF f (m : Int) 2 * kpo (ppF f (m : Int)) 6) 0) (oF f (m : Int) 3).toNat) i) + ksm (fun d => kI (onF f ((i : Nat) : Int) (d : Int)) (oF f ((i : Nat) : Int) 2 * kpo (ppF f ((i : Nat) : Int)) 6) 0) (j + 1)))), some (.int (iI ((i : Nat) : Int))), some (.int (iI (((j : Nat) : Int) + 1)))]) (by rw [e]) ?_
            exact ih21 _ (by omega) (j + 1) rfl (by omega)
          · replace c38 : (onF f ((i : Nat) : Int) ((j : Nat) : Int)) := kB_nz.mp c38
            refine k_aload_n (pc1 := 42) dX6_sittings_41 rfl rfl ?_
            refine k_iload_n (pc1 := 43) dX6_sittings_42 rfl rfl ?_
            refine k_iconst (pc1 := 44) dX6_sittings_43 rfl ?_
            refine k_callVP dX6_sittings_44 rfl lk_RX6_37 o_X6_of (w_X6_of hl hM189 ((i : Nat) : Int) 2 (by omega) (by omega)) (as := [.int (iI ((i : Nat) : Int)), .int (iI 2)]) hM189.1 rfl rfl rfl rfl (by decide) (by decide) (k8 rfl) ?_
            refine k_aload_n (pc1 := 48) dX6_sittings_47 rfl rfl ?_
            refine k_iload_n (pc1 := 49) dX6_sittings_48 rfl rfl ?_
            refine k_callVP dX6_sittings_49 rfl lk_RX6_59 o_X6_people (w_X6_people hl hM189 ((i : Nat) : Int) hW (by omega) (by omega)) (as := [.int (iI ((i : Nat) : Int))]) hM189.1 rfl rfl rfl rfl (by decide) (by decide) (k8 rfl) ?_
            have hpl := ppF_lt f ((i : Nat) : Int)
            refine k_callSP dX6_sittings_52 rfl lk_RX6_63 o_X6_many (w_X6_many hl (ppF f ((i : Nat) : Int)) (by first | omega | exact kmk_lt _ _ | assumption)) (as := [.int (iI (((ppF f ((i : Nat) : Int)) : Nat) : Int))]) rfl rfl rfl (by decide) (by decide) (k8 rfl) ?_
            refine k_imul (a := (oF f ((i : Nat) : Int) 2)) (b := (kpo (ppF f ((i : Nat) : Int)) 6)) (pc1 := 56) dX6_sittings_55 rfl ?_
            refine k_goto dX6_sittings_56 (tgt := 60) rfl ?_
            refine k_iadd (a := ((ksm (fun m => ksm (fun d => kI (onF f (m : Int) (d : Int)) (oF f (m : Int) 2 * kpo (ppF f (m : Int)) 6) 0) (oF f (m : Int) 3).toNat) i) + ksm (fun d => kI (onF f ((i : Nat) : Int) (d : Int)) (oF f ((i : Nat) : Int) 2 * kpo (ppF f ((i : Nat) : Int)) 6) 0) j)) (b := ((oF f ((i : Nat) : Int) 2) * (kpo (ppF f ((i : Nat) : Int)) 6))) (pc1 := 61) dX6_sittings_60 rfl ?_
            refine k_istore_n (pc1 := 62) dX6_sittings_61 rfl (by decide) (k_loc (L' := [some (.ref o), some (.int (iI (((ksm (fun m => ksm (fun d => kI (onF f (m : Int) (d : Int)) (oF f (m : Int) 2 * kpo (ppF f (m : Int)) 6) 0) (oF f (m : Int) 3).toNat) i) + ksm (fun d => kI (onF f ((i : Nat) : Int) (d : Int)) (oF f ((i : Nat) : Int) 2 * kpo (ppF f ((i : Nat) : Int)) 6) 0) j) + ((oF f ((i : Nat) : Int) 2) * (kpo (ppF f ((i : Nat) : Int)) 6))))), some (.int (iI ((i : Nat) : Int))), some (.int (iI ((j : Nat) : Int)))]) rfl ?_)
            refine k_iinc (a := ((j : Nat) : Int)) (pc1 := 65) dX6_sittings_62 rfl rfl (by decide) (k_loc (L' := [some (.ref o), some (.int (iI (((ksm (fun m => ksm (fun d => kI (onF f (m : Int) (d : Int)) (oF f (m : Int) 2 * kpo (ppF f (m : Int)) 6) 0) (oF f (m : Int) 3).toNat) i) + ksm (fun d => kI (onF f ((i : Nat) : Int) (d : Int)) (oF f ((i : Nat) : Int) 2 * kpo (ppF f ((i : Nat) : Int)) 6) 0) j) + ((oF f ((i : Nat) : Int) 2) * (kpo (ppF f ((i : Nat) : Int)) 6))))), some (.int (iI ((i : Nat) : Int))), some (.int (iI (((j : Nat) : Int) + 1)))]) rfl ?_)
            refine k_goto dX6_sittings_65 (tgt := 21) rfl ?_
            have e : ((ksm (fun m => ksm (fun d => kI (onF f (m : Int) (d : Int)) (oF f (m : Int) 2 * kpo (ppF f (m : Int)) 6) 0) (oF f (m : Int) 3).toNat) i) + ksm (fun d => kI (onF f ((i : Nat) : Int) (d : Int)) (oF f ((i : Nat) : Int) 2 * kpo (ppF f ((i : Nat) : Int)) 6) 0) (j + 1)) = (((ksm (fun m => ksm (fun d => kI (onF f (m : Int) (d : Int)) (oF f (m : Int) 2 * kpo (ppF f (m : Int)) 6) 0) (oF f (m : Int) 3).toNat) i) + ksm (fun d => kI (onF f ((i : Nat) : Int) (d : Int)) (oF f ((i : Nat) : Int) 2 * kpo (ppF f ((i : Nat) : Int)) 6) 0) j) + ((oF f ((i : Nat) : Int) 2) * (kpo (ppF f ((i : Nat) : Int)) 6))) := by
              show _ + (ksm (fun d => kI (onF f ((i : Nat) : Int) (d : Int)) (oF f ((i : Nat) : Int) 2 * kpo (ppF f ((i : Nat) : Int)) 6) 0) j + kI _ _ _) = _
              rw [kI_t c38]
              omega
            refine k_loc (L' := [some (.ref o), some (.int (iI ((ksm (fun m => ksm (fun d => kI (onF f (m : Int) (d : Int)) (oF f (m : Int) 2 * kpo (ppF f (m : Int)) 6) 0) (oF f (m : Int) 3).toNat) i) + ksm (fun d => kI (onF f ((i : Nat) : Int) (d : Int)) (oF f ((i : Nat) : Int) 2 * kpo (ppF f ((i : Nat) : Int)) 6) 0) (j + 1)))), some (.int (iI ((i : Nat) : Int))), some (.int (iI (((j : Nat) : Int) + 1)))]) (by rw [e]) ?_
            exact ih21 _ (by omega) (j + 1) rfl (by omega)
      refine k_loc (L' := [some (.ref o), some (.int (iI ((ksm (fun m => ksm (fun d => kI (onF f (m : Int) (d : Int)) (oF f (m : Int) 2 * kpo (ppF f (m : Int)) 6) 0) (oF f (m : Int) 3).toNat) i) + ksm (fun d => kI (onF f ((i : Nat) : Int) (d : Int)) (oF f ((i : Nat) : Int) 2 * kpo (ppF f ((i : Nat) : Int)) 6) 0) 0))), some (.int (iI ((i : Nat) : Int))), some (.int (iI 0))]) (by rw [show ksm (fun d => kI (onF f ((i : Nat) : Int) (d : Int)) (oF f ((i : Nat) : Int) 2 * kpo (ppF f ((i : Nat) : Int)) 6) 0) 0 = 0 from rfl, Int.add_zero]) ?_
      exact hloop21 _ 0 rfl (by omega)
  exact hloop9 _ 0 rfl (by omega)
theorem w_X6_meanExpectedT {l : Launch} {G : kG} {h : kAH} {o g r : Nat} {c : Int} {f : Nat → Int} (hl : l.stackTraces = false) (hM : kMd G h o g r c (-1) (-1) f) (hW : kWf f) (hc : f 1 = 0) : kC l G m_X6_meanExpected 4 0 0 [.ref o] h (kMq G o g r (some (.double 0)) 1 (-1) (-1) f h) kNo := by
  have h8 := kWf_cnt hW
  have h9 := kWf_nxt hW
  refine kC_of hl rfl rfl (Nat.le_of_ble_eq_true rfl) (L := [some (.ref o), none, none]) rfl ?_
  refine k_aload_n (pc1 := 1) dX6_meanExpected_0 rfl rfl ?_
  refine k_aload_n (pc1 := 2) dX6_meanExpected_1 rfl rfl ?_
  refine k_get (pc1 := 5) dX6_meanExpected_2 rfl fd_RX6_7 hM.1 (v := .ref g) rfl ?_
  refine k_iconst (pc1 := 6) dX6_meanExpected_5 rfl ?_
  refine k_iald (i := 1) (f := f) (pc1 := 7) dX6_meanExpected_6 rfl hM.2.1 (N := 380) (by omega) (by omega) (by decide) (k_val (v' := .int (iI (f 1))) rfl ?_)
  refine k_if_ne (a := (f 1)) dX6_meanExpected_7 rfl (tgt := 14) rfl (by omega) (fun c7 : (f 1) ≠ 0 => ?_) (fun c7 : (f 1) = 0 => ?_)
  · skip
    refine k_iconst (pc1 := 15) dX6_meanExpected_14 rfl ?_
    refine k_callVM (c' := 0) (wm' := (-1)) (wd' := (-1)) (f' := f) (v := .int (iI 0)) dX6_meanExpected_15 rfl lk_RX6_34 o_X6_fails hM (w_X6_failsF hl hM) (as := [.int (iI 0)]) rfl rfl rfl (by decide) (by decide) (k8 rfl) (fun h190 hM190 hX190 => ?_)
    have hF190 := kFm_tr (kFm_rf o g r h) hX190
    refine k_if_eq (a := 0) dX6_meanExpected_18 rfl (tgt := 23) rfl (by decide) (fun _ => ?_) (fun c => absurd c (by decide))
    exfalso; omega
  · skip
    refine k_iconst (pc1 := 11) dX6_meanExpected_10 rfl ?_
    refine k_goto dX6_meanExpected_11 (tgt := 15) rfl ?_
    refine k_callVM (c' := 1) (wm' := (-1)) (wd' := (-1)) (f' := f) (v := .int (iI 1)) dX6_meanExpected_15 rfl lk_RX6_34 o_X6_fails hM (w_X6_failsT hl hM (by decide)) (as := [.int (iI 1)]) rfl rfl rfl (by decide) (by decide) (k8 rfl) (fun h191 hM191 hX191 => ?_)
    have hF191 := kFm_tr (kFm_rf o g r h) hX191
    refine k_if_eq (a := 1) dX6_meanExpected_18 rfl (tgt := 23) rfl (by decide) (fun c => absurd c (by decide)) (fun _ => ?_)
    refine k_dconst0 (pc1 := 22) dX6_meanExpected_21 rfl ?_
    first | (exfalso; omega) | exact k_dret dX6_meanExpected_22 rfl ⟨rfl, hM191, hF191⟩
theorem w_X6_meanExpectedF {l : Launch} {G : kG} {h : kAH} {o g r : Nat} {c : Int} {f : Nat → Int} (hl : l.stackTraces = false) (hM : kMd G h o g r c (-1) (-1) f) (hW : kWf f) (hc : ¬ f 1 = 0) : kC l G m_X6_meanExpected 4 0 0 [.ref o] h (kMq G o g r (some (.double (FP.ddiv (FP.i2d (iI (mxF f))) (FP.i2d (iI (f 1)))))) 0 (-1) (-1) f h) kNo := by
  have h8 := kWf_cnt hW
  have h9 := kWf_nxt hW
  refine kC_of hl rfl rfl (Nat.le_of_ble_eq_true rfl) (L := [some (.ref o), none, none]) rfl ?_
  refine k_aload_n (pc1 := 1) dX6_meanExpected_0 rfl rfl ?_
  refine k_aload_n (pc1 := 2) dX6_meanExpected_1 rfl rfl ?_
  refine k_get (pc1 := 5) dX6_meanExpected_2 rfl fd_RX6_7 hM.1 (v := .ref g) rfl ?_
  refine k_iconst (pc1 := 6) dX6_meanExpected_5 rfl ?_
  refine k_iald (i := 1) (f := f) (pc1 := 7) dX6_meanExpected_6 rfl hM.2.1 (N := 380) (by omega) (by omega) (by decide) (k_val (v' := .int (iI (f 1))) rfl ?_)
  refine k_if_ne (a := (f 1)) dX6_meanExpected_7 rfl (tgt := 14) rfl (by omega) (fun c7 : (f 1) ≠ 0 => ?_) (fun c7 : (f 1) = 0 => ?_)
  · skip
    refine k_iconst (pc1 := 15) dX6_meanExpected_14 rfl ?_
    refine k_callVM (c' := 0) (wm' := (-1)) (wd' := (-1)) (f' := f) (v := .int (iI 0)) dX6_meanExpected_15 rfl lk_RX6_34 o_X6_fails hM (w_X6_failsF hl hM) (as := [.int (iI 0)]) rfl rfl rfl (by decide) (by decide) (k8 rfl) (fun h192 hM192 hX192 => ?_)
    have hF192 := kFm_tr (kFm_rf o g r h) hX192
    refine k_if_eq (a := 0) dX6_meanExpected_18 rfl (tgt := 23) rfl (by decide) (fun _ => ?_) (fun c => absurd c (by decide))
    refine k_iconst (pc1 := 24) dX6_meanExpected_23 rfl ?_
    refine k_istore_n (pc1 := 25) dX6_meanExpected_24 rfl (by decide) (k_loc (L' := [some (.ref o), some (.int (iI 0)), none]) rfl ?_)
    refine k_iconst (pc1 := 26) dX6_meanExpected_25 rfl ?_
    refine k_istore_n (pc1 := 27) dX6_meanExpected_26 rfl (by decide) (k_loc (L' := [some (.ref o), some (.int (iI 0)), some (.int (iI 0))]) rfl ?_)
    have hloop27 : ∀ (zz : Nat) (i : Nat), zz = (f 1 - ((i : Nat) : Int)).toNat → (((i : Nat) : Int) ≤ f 1) → kW l G m_X6_meanExpected 4 (kMq G o g r (some (.double (FP.ddiv (FP.i2d (iI (mxF f))) (FP.i2d (iI (f 1)))))) 0 (-1) (-1) f h) kNo 0 0 27 [some (.ref o), some (.int (iI (ksm (fun m => kpo (ppF f (m : Int)) 6) i))), some (.int (iI ((i : Nat) : Int)))] [] h192 := by
      intro zz
      induction zz using Nat.strongRecOn with
      | ind zz ih27 =>
      intro i hr27 hi
      refine k_iload_n (pc1 := 28) dX6_meanExpected_27 rfl rfl ?_
      refine k_aload_n (pc1 := 29) dX6_meanExpected_28 rfl rfl ?_
      refine k_get (pc1 := 32) dX6_meanExpected_29 rfl fd_RX6_7 hM192.1 (v := .ref g) rfl ?_
      refine k_iconst (pc1 := 33) dX6_meanExpected_32 rfl ?_
      refine k_iald (i := 1) (f := f) (pc1 := 34) dX6_meanExpected_33 rfl hM192.2.1 (N := 380) (by omega) (by omega) (by decide) (k_val (v' := .int (iI (f 1))) rfl ?_)
      refine k_icmp_ge (a := ((i : Nat) : Int)) (b := (f 1)) dX6_meanExpected_34 rfl (tgt := 54) rfl (by omega) (by omega) (fun c34 : (f 1) ≤ ((i : Nat) : Int) => ?_) (fun c34 : ((i : Nat) : Int) < (f 1) => ?_)
      · skip
        have hmr : 0 * ((i : Nat) : Int) ≤ (ksm (fun m => kpo (ppF f (m : Int)) 6) i) ∧ (ksm (fun m => kpo (ppF f (m : Int)) 6) i) ≤ 6 * ((i : Nat) : Int) := ksm_rng (fun j _ => kpo_rng _ 6)
        have ei : i = (f 1).toNat := by omega
        refine k_iload_n (pc1 := 55) dX6_meanExpected_54 rfl rfl ?_
        refine k_i2d (pc1 := 56) dX6_meanExpected_55 rfl ?_
        refine k_aload_n (pc1 := 57) dX6_meanExpected_56 rfl rfl ?_
        refine k_get (pc1 := 60) dX6_meanExpected_57 rfl fd_RX6_7 hM192.1 (v := .ref g) rfl ?_
        refine k_iconst (pc1 := 61) dX6_meanExpected_60 rfl ?_
        refine k_iald (i := 1) (f := f) (pc1 := 62) dX6_meanExpected_61 rfl hM192.2.1 (N := 380) (by omega) (by omega) (by decide) (k_val (v' := .int (iI (f 1))) rfl ?_)
        refine k_i2d (pc1 := 63) dX6_meanExpected_62 rfl ?_
        refine k_ddiv (pc1 := 64) dX6_meanExpected_63 rfl (fp_d (by omega) (by omega)) ?_
        subst ei
        exact k_dret dX6_meanExpected_64 rfl ⟨rfl, hM192, hF192⟩
      · skip
        refine k_iload_n (pc1 := 38) dX6_meanExpected_37 rfl rfl ?_
        refine k_aload_n (pc1 := 39) dX6_meanExpected_38 rfl rfl ?_
        refine k_iload_n (pc1 := 40) dX6_meanExpected_39 rfl rfl ?_
        refine k_callVP dX6_meanExpected_40 rfl lk_RX6_59 o_X6_people (w_X6_people hl hM192 ((i : Nat) : Int) hW (by omega) (by omega)) (as := [.int (iI ((i : Nat) : Int))]) hM192.1 rfl rfl rfl rfl (by decide) (by decide) (k8 rfl) ?_
        have hpl := ppF_lt f ((i : Nat) : Int)
        refine k_callSP dX6_meanExpected_43 rfl lk_RX6_63 o_X6_many (w_X6_many hl (ppF f ((i : Nat) : Int)) (by first | omega | exact kmk_lt _ _ | assumption)) (as := [.int (iI (((ppF f ((i : Nat) : Int)) : Nat) : Int))]) rfl rfl rfl (by decide) (by decide) (k8 rfl) ?_
        refine k_iadd (a := (ksm (fun m => kpo (ppF f (m : Int)) 6) i)) (b := (kpo (ppF f ((i : Nat) : Int)) 6)) (pc1 := 47) dX6_meanExpected_46 rfl ?_
        refine k_istore_n (pc1 := 48) dX6_meanExpected_47 rfl (by decide) (k_loc (L' := [some (.ref o), some (.int (iI ((ksm (fun m => kpo (ppF f (m : Int)) 6) i) + (kpo (ppF f ((i : Nat) : Int)) 6)))), some (.int (iI ((i : Nat) : Int)))]) rfl ?_)
        refine k_iinc (a := ((i : Nat) : Int)) (pc1 := 51) dX6_meanExpected_48 rfl rfl (by decide) (k_loc (L' := [some (.ref o), some (.int (iI ((ksm (fun m => kpo (ppF f (m : Int)) 6) i) + (kpo (ppF f ((i : Nat) : Int)) 6)))), some (.int (iI (((i : Nat) : Int) + 1)))]) rfl ?_)
        refine k_goto dX6_meanExpected_51 (tgt := 27) rfl ?_
        exact ih27 _ (by omega) (i + 1) rfl (by omega)
    exact hloop27 _ 0 rfl (by omega)
  · skip
    refine k_iconst (pc1 := 11) dX6_meanExpected_10 rfl ?_
    refine k_goto dX6_meanExpected_11 (tgt := 15) rfl ?_
    refine k_callVM (c' := 1) (wm' := (-1)) (wd' := (-1)) (f' := f) (v := .int (iI 1)) dX6_meanExpected_15 rfl lk_RX6_34 o_X6_fails hM (w_X6_failsT hl hM (by decide)) (as := [.int (iI 1)]) rfl rfl rfl (by decide) (by decide) (k8 rfl) (fun h193 hM193 hX193 => ?_)
    have hF193 := kFm_tr (kFm_rf o g r h) hX193
    refine k_if_eq (a := 1) dX6_meanExpected_18 rfl (tgt := 23) rfl (by decide) (fun c => absurd c (by decide)) (fun _ => ?_)
    refine k_dconst0 (pc1 := 22) dX6_meanExpected_21 rfl ?_
    first | (exfalso; omega) | exact k_dret dX6_meanExpected_22 rfl ⟨rfl, hM193, hF193⟩
theorem w_X6_yesShareT {l : Launch} {G : kG} {h : kAH} {o g r : Nat} {c : Int} {f : Nat → Int} (hl : l.stackTraces = false) (hM : kMd G h o g r c (-1) (-1) f) (hW : kWf f) (hc : alF f = 0) : kC l G m_X6_yesShare 2 0 0 [.ref o] h (kMq G o g r (some (.float 0)) 1 (-1) (-1) f h) kNo := by
  have h8 := kWf_cnt hW
  have h9 := kWf_nxt hW
  refine kC_of hl rfl rfl (Nat.le_of_ble_eq_true rfl) (L := [some (.ref o), none, none, none, none]) rfl ?_
  refine k_iconst (pc1 := 1) dX6_yesShare_0 rfl ?_
  refine k_istore_n (pc1 := 2) dX6_yesShare_1 rfl (by decide) (k_loc (L' := [some (.ref o), some (.int (iI 0)), none, none, none]) rfl ?_)
  refine k_iconst (pc1 := 3) dX6_yesShare_2 rfl ?_
  refine k_istore_n (pc1 := 4) dX6_yesShare_3 rfl (by decide) (k_loc (L' := [some (.ref o), some (.int (iI 0)), some (.int (iI 0)), none, none]) rfl ?_)
  refine k_iconst (pc1 := 5) dX6_yesShare_4 rfl ?_
  refine k_istore_n (pc1 := 6) dX6_yesShare_5 rfl (by decide) (k_loc (L' := [some (.ref o), some (.int (iI 0)), some (.int (iI 0)), some (.int (iI 0)), none]) rfl ?_)
  have hloop6 : ∀ (zz : Nat) (i : Nat), zz = (f 1 - ((i : Nat) : Int)).toNat → (((i : Nat) : Int) ≤ f 1) → kW l G m_X6_yesShare 2 (kMq G o g r (some (.float 0)) 1 (-1) (-1) f h) kNo 0 0 6 [some (.ref o), some (.int (iI (ksm (fun m => ksm (fun p => kB (oF f (m : Int) (4 + (p : Int)) = 121)) 6) i))), some (.int (iI (ksm (fun m => ksm (fun p => kB (oF f (m : Int) (4 + (p : Int)) = 121 ∨ oF f (m : Int) (4 + (p : Int)) = 110)) 6) i))), some (.int (iI ((i : Nat) : Int))), none] [] h := by
    intro zz
    induction zz using Nat.strongRecOn with
    | ind zz ih6 =>
    intro i hr6 hi
    refine k_iload_n (pc1 := 7) dX6_yesShare_6 rfl rfl ?_
    refine k_aload_n (pc1 := 8) dX6_yesShare_7 rfl rfl ?_
    refine k_get (pc1 := 11) dX6_yesShare_8 rfl fd_RX6_7 hM.1 (v := .ref g) rfl ?_
    refine k_iconst (pc1 := 12) dX6_yesShare_11 rfl ?_
    refine k_iald (i := 1) (f := f) (pc1 := 13) dX6_yesShare_12 rfl hM.2.1 (N := 380) (by omega) (by omega) (by decide) (k_val (v' := .int (iI (f 1))) rfl ?_)
    refine k_icmp_ge (a := ((i : Nat) : Int)) (b := (f 1)) dX6_yesShare_13 rfl (tgt := 96) rfl (by omega) (by omega) (fun c13 : (f 1) ≤ ((i : Nat) : Int) => ?_) (fun c13 : ((i : Nat) : Int) < (f 1) => ?_)
    · skip
      have ei : i = (f 1).toNat := by omega
      subst ei
      have hyr : 0 ≤ ysF f ∧ ysF f ≤ alF f ∧ alF f ≤ 48 := ysF_r h8
      replace hyr : 0 ≤ (ksm (fun m => ksm (fun p => kB (oF f (m : Int) (4 + (p : Int)) = 121)) 6) (f 1).toNat) ∧ (ksm (fun m => ksm (fun p => kB (oF f (m : Int) (4 + (p : Int)) = 121)) 6) (f 1).toNat) ≤ (ksm (fun m => ksm (fun p => kB (oF f (m : Int) (4 + (p : Int)) = 121 ∨ oF f (m : Int) (4 + (p : Int)) = 110)) 6) (f 1).toNat) ∧ (ksm (fun m => ksm (fun p => kB (oF f (m : Int) (4 + (p : Int)) = 121 ∨ oF f (m : Int) (4 + (p : Int)) = 110)) 6) (f 1).toNat) ≤ 48 := hyr
      replace hc : (ksm (fun m => ksm (fun p => kB (oF f (m : Int) (4 + (p : Int)) = 121 ∨ oF f (m : Int) (4 + (p : Int)) = 110)) 6) (f 1).toNat) = 0 := hc
      refine k_aload_n (pc1 := 97) dX6_yesShare_96 rfl rfl ?_
      refine k_iload_n (pc1 := 98) dX6_yesShare_97 rfl rfl ?_
      refine k_if_ne (a := (ksm (fun m => ksm (fun p => kB (oF f (m : Int) (4 + (p : Int)) = 121 ∨ oF f (m : Int) (4 + (p : Int)) = 110)) 6) (f 1).toNat)) dX6_yesShare_98 rfl (tgt := 105) rfl (by omega) (fun c98 : (ksm (fun m => ksm (fun p => kB (oF f (m : Int) (4 + (p : Int)) = 121 ∨ oF f (m : Int) (4 + (p : Int)) = 110)) 6) (f 1).toNat) ≠ 0 => ?_) (fun c98 : (ksm (fun m => ksm (fun p => kB (oF f (m : Int) (4 + (p : Int)) = 121 ∨ oF f (m : Int) (4 + (p : Int)) = 110)) 6) (f 1).toNat) = 0 => ?_)
      · skip
        refine k_iconst (pc1 := 106) dX6_yesShare_105 rfl ?_
        refine k_callVM (c' := 0) (wm' := (-1)) (wd' := (-1)) (f' := f) (v := .int (iI 0)) dX6_yesShare_106 rfl lk_RX6_34 o_X6_fails hM (w_X6_failsF hl hM) (as := [.int (iI 0)]) rfl rfl rfl (by decide) (by decide) (k8 rfl) (fun h194 hM194 hX194 => ?_)
        have hF194 := kFm_tr (kFm_rf o g r h) hX194
        refine k_if_eq (a := 0) dX6_yesShare_109 rfl (tgt := 116) rfl (by decide) (fun _ => ?_) (fun c => absurd c (by decide))
        exfalso; omega
      · skip
        refine k_iconst (pc1 := 102) dX6_yesShare_101 rfl ?_
        refine k_goto dX6_yesShare_102 (tgt := 106) rfl ?_
        refine k_callVM (c' := 1) (wm' := (-1)) (wd' := (-1)) (f' := f) (v := .int (iI 1)) dX6_yesShare_106 rfl lk_RX6_34 o_X6_fails hM (w_X6_failsT hl hM (by decide)) (as := [.int (iI 1)]) rfl rfl rfl (by decide) (by decide) (k8 rfl) (fun h195 hM195 hX195 => ?_)
        have hF195 := kFm_tr (kFm_rf o g r h) hX195
        refine k_if_eq (a := 1) dX6_yesShare_109 rfl (tgt := 116) rfl (by decide) (fun c => absurd c (by decide)) (fun _ => ?_)
        refine k_fconst0 (pc1 := 113) dX6_yesShare_112 rfl ?_
        refine k_goto dX6_yesShare_113 (tgt := 121) rfl ?_
        first | (exfalso; omega) | exact k_fret dX6_yesShare_121 rfl ⟨rfl, hM195, hF195⟩
    · skip
      have hm := kWf_m hW (m := ((i : Nat) : Int)) (by omega) (by omega)
      refine k_iconst (pc1 := 17) dX6_yesShare_16 rfl ?_
      refine k_istore (pc1 := 19) dX6_yesShare_17 rfl (by decide) (k_loc (L' := [some (.ref o), some (.int (iI (ksm (fun m => ksm (fun p => kB (oF f (m : Int) (4 + (p : Int)) = 121)) 6) i))), some (.int (iI (ksm (fun m => ksm (fun p => kB (oF f (m : Int) (4 + (p : Int)) = 121 ∨ oF f (m : Int) (4 + (p : Int)) = 110)) 6) i))), some (.int (iI ((i : Nat) : Int))), some (.int (iI 0))]) rfl ?_)
      have hloop19 : ∀ (zz : Nat) (j : Nat), zz = 6 - j → (j ≤ 6) → kW l G m_X6_yesShare 2 (kMq G o g r (some (.float 0)) 1 (-1) (-1) f h) kNo 0 0 19 [some (.ref o), some (.int (iI ((ksm (fun m => ksm (fun p => kB (oF f (m : Int) (4 + (p : Int)) = 121)) 6) i) + ksm (fun p => kB (oF f ((i : Nat) : Int) (4 + (p : Int)) = 121)) j))), some (.int (iI ((ksm (fun m => ksm (fun p => kB (oF f (m : Int) (4 + (p : Int)) = 121 ∨ oF f (m : Int) (4 + (p : Int)) = 110)) 6) i) + ksm (fun p => kB (oF f ((i : Nat) : Int) (4 + (p : Int)) = 121 ∨ oF f ((i : Nat) : Int) (4 + (p : Int)) = 110)) j))), some (.int (iI ((i : Nat) : Int))), some (.int (iI ((j : Nat) : Int)))] [] h := by
        intro zz
        induction zz using Nat.strongRecOn with
        | ind zz ih19 =>
        intro j hr19 hj
        refine k_iload (pc1 := 21) dX6_yesShare_19 rfl rfl ?_
        refine k_bipush 6 (pc1 := 23) dX6_yesShare_21 rfl (by decide) ?_
        refine k_icmp_ge (a := ((j : Nat) : Int)) (b := 6) dX6_yesShare_23 rfl (tgt := 90) rfl (by omega) (by decide) (fun c23 : 6 ≤ ((j : Nat) : Int) => ?_) (fun c23 : ((j : Nat) : Int) < 6 => ?_)
        · skip
          refine k_iinc (a := ((i : Nat) : Int)) (pc1 := 93) dX6_yesShare_90 rfl rfl (by decide) (k_loc (L' := [some (.ref o), some (.int (iI ((ksm (fun m => ksm (fun p => kB (oF f (m : Int) (4 + (p : Int)) = 121)) 6) i) + ksm (fun p => kB (oF f ((i : Nat) : Int) (4 + (p : Int)) = 121)) j))), some (.int (iI ((ksm (fun m => ksm (fun p => kB (oF f (m : Int) (4 + (p : Int)) = 121 ∨ oF f (m : Int) (4 + (p : Int)) = 110)) 6) i) + ksm (fun p => kB (oF f ((i : Nat) : Int) (4 + (p : Int)) = 121 ∨ oF f ((i : Nat) : Int) (4 + (p : Int)) = 110)) j))), some (.int (iI (((i : Nat) : Int) + 1))), some (.int (iI ((j : Nat) : Int)))]) rfl ?_)
          refine k_goto dX6_yesShare_93 (tgt := 6) rfl ?_
          refine k_forget 4 (k_loc (L' := [some (.ref o), some (.int (iI ((ksm (fun m => ksm (fun p => kB (oF f (m : Int) (4 + (p : Int)) = 121)) 6) i) + ksm (fun p => kB (oF f ((i : Nat) : Int) (4 + (p : Int)) = 121)) j))), some (.int (iI ((ksm (fun m => ksm (fun p => kB (oF f (m : Int) (4 + (p : Int)) = 121 ∨ oF f (m : Int) (4 + (p : Int)) = 110)) 6) i) + ksm (fun p => kB (oF f ((i : Nat) : Int) (4 + (p : Int)) = 121 ∨ oF f ((i : Nat) : Int) (4 + (p : Int)) = 110)) j))), some (.int (iI (((i : Nat) : Int) + 1))), none]) rfl ?_)
          have ej : j = 6 := by omega
          subst ej
          exact ih6 _ (by omega) (i + 1) rfl (by omega)
        · skip
          have hpp := kWf_p hW (m := ((i : Nat) : Int)) (p := ((j : Nat) : Int)) (by omega) (by omega) (by omega) (by omega)
          refine k_iload_n (pc1 := 27) dX6_yesShare_26 rfl rfl ?_
          refine k_aload_n (pc1 := 28) dX6_yesShare_27 rfl rfl ?_
          refine k_iload_n (pc1 := 29) dX6_yesShare_28 rfl rfl ?_
          refine k_iconst (pc1 := 30) dX6_yesShare_29 rfl ?_
          refine k_iload (pc1 := 32) dX6_yesShare_30 rfl rfl ?_
          refine k_iadd (a := 4) (b := ((j : Nat) : Int)) (pc1 := 33) dX6_yesShare_32 rfl ?_
          refine k_callVP dX6_yesShare_33 rfl lk_RX6_37 o_X6_of (w_X6_of hl hM ((i : Nat) : Int) (4 + ((j : Nat) : Int)) (by omega) (by omega)) (as := [.int (iI ((i : Nat) : Int)), .int (iI (4 + ((j : Nat) : Int)))]) hM.1 rfl rfl rfl rfl (by decide) (by decide) (k8 rfl) ?_
          refine k_bipush 121 (pc1 := 38) dX6_yesShare_36 rfl (by decide) ?_
          refine k_icmp_ne (a := (oF f ((i : Nat) : Int) (4 + ((j : Nat) : Int)))) (b := 121) dX6_yesShare_38 rfl (tgt := 45) rfl (by omega) (by decide) (fun c38 : (oF f ((i : Nat) : Int) (4 + ((j : Nat) : Int))) ≠ 121 => ?_) (fun c38 : (oF f ((i : Nat) : Int) (4 + ((j : Nat) : Int))) = 121 => ?_)
          · skip
            refine k_iconst (pc1 := 46) dX6_yesShare_45 rfl ?_
            refine k_iadd (a := ((ksm (fun m => ksm (fun p => kB (oF f (m : Int) (4 + (p : Int)) = 121)) 6) i) + ksm (fun p => kB (oF f ((i : Nat) : Int) (4 + (p : Int)) = 121)) j)) (b := 0) (pc1 := 47) dX6_yesShare_46 rfl ?_
            refine k_istore_n (pc1 := 48) dX6_yesShare_47 rfl (by decide) (k_loc (L' := [some (.ref o), some (.int (iI (((ksm (fun m => ksm (fun p => kB (oF f (m : Int) (4 + (p : Int)) = 121)) 6) i) + ksm (fun p => kB (oF f ((i : Nat) : Int) (4 + (p : Int)) = 121)) j) + 0))), some (.int (iI ((ksm (fun m => ksm (fun p => kB (oF f (m : Int) (4 + (p : Int)) = 121 ∨ oF f (m : Int) (4 + (p : Int)) = 110)) 6) i) + ksm (fun p => kB (oF f ((i : Nat) : Int) (4 + (p : Int)) = 121 ∨ oF f ((i : Nat) : Int) (4 + (p : Int)) = 110)) j))), some (.int (iI ((i : Nat) : Int))), some (.int (iI ((j : Nat) : Int)))]) rfl ?_)
            refine k_iload_n (pc1 := 49) dX6_yesShare_48 rfl rfl ?_
            refine k_aload_n (pc1 := 50) dX6_yesShare_49 rfl rfl ?_
            refine k_iload_n (pc1 := 51) dX6_yesShare_50 rfl rfl ?_
            refine k_iconst (pc1 := 52) dX6_yesShare_51 rfl ?_
            refine k_iload (pc1 := 54) dX6_yesShare_52 rfl rfl ?_
            refine k_iadd (a := 4) (b := ((j : Nat) : Int)) (pc1 := 55) dX6_yesShare_54 rfl ?_
            refine k_callVP dX6_yesShare_55 rfl lk_RX6_37 o_X6_of (w_X6_of hl hM ((i : Nat) : Int) (4 + ((j : Nat) : Int)) (by omega) (by omega)) (as := [.int (iI ((i : Nat) : Int)), .int (iI (4 + ((j : Nat) : Int)))]) hM.1 rfl rfl rfl rfl (by decide) (by decide) (k8 rfl) ?_
            refine k_bipush 121 (pc1 := 60) dX6_yesShare_58 rfl (by decide) ?_
            refine k_icmp_eq (a := (oF f ((i : Nat) : Int) (4 + ((j : Nat) : Int)))) (b := 121) dX6_yesShare_60 rfl (tgt := 77) rfl (by omega) (by decide) (fun c60 : (oF f ((i : Nat) : Int) (4 + ((j : Nat) : Int))) = 121 => ?_) (fun c60 : (oF f ((i : Nat) : Int) (4 + ((j : Nat) : Int))) ≠ 121 => ?_)
            · skip
              refine k_iconst (pc1 := 78) dX6_yesShare_77 rfl ?_
              refine k_goto dX6_yesShare_78 (tgt := 82) rfl ?_
              refine k_iadd (a := ((ksm (fun m => ksm (fun p => kB (oF f (m : Int) (4 + (p : Int)) = 121 ∨ oF f (m : Int) (4 + (p : Int)) = 110)) 6) i) + ksm (fun p => kB (oF f ((i : Nat) : Int) (4 + (p : Int)) = 121 ∨ oF f ((i : Nat) : Int) (4 + (p : Int)) = 110)) j)) (b := 1) (pc1 := 83) dX6_yesShare_82 rfl ?_
              refine k_istore_n (pc1 := 84) dX6_yesShare_83 rfl (by decide) (k_loc (L' := [some (.ref o), some (.int (iI (((ksm (fun m => ksm (fun p => kB (oF f (m : Int) (4 + (p : Int)) = 121)) 6) i) + ksm (fun p => kB (oF f ((i : Nat) : Int) (4 + (p : Int)) = 121)) j) + 0))), some (.int (iI (((ksm (fun m => ksm (fun p => kB (oF f (m : Int) (4 + (p : Int)) = 121 ∨ oF f (m : Int) (4 + (p : Int)) = 110)) 6) i) + ksm (fun p => kB (oF f ((i : Nat) : Int) (4 + (p : Int)) = 121 ∨ oF f ((i : Nat) : Int) (4 + (p : Int)) = 110)) j) + 1))), some (.int (iI ((i : Nat) : Int))), some (.int (iI ((j : Nat) : Int)))]) rfl ?_)
              refine k_iinc (a := ((j : Nat) : Int)) (pc1 := 87) dX6_yesShare_84 rfl rfl (by decide) (k_loc (L' := [some (.ref o), some (.int (iI (((ksm (fun m => ksm (fun p => kB (oF f (m : Int) (4 + (p : Int)) = 121)) 6) i) + ksm (fun p => kB (oF f ((i : Nat) : Int) (4 + (p : Int)) = 121)) j) + 0))), some (.int (iI (((ksm (fun m => ksm (fun p => kB (oF f (m : Int) (4 + (p : Int)) = 121 ∨ oF f (m : Int) (4 + (p : Int)) = 110)) 6) i) + ksm (fun p => kB (oF f ((i : Nat) : Int) (4 + (p : Int)) = 121 ∨ oF f ((i : Nat) : Int) (4 + (p : Int)) = 110)) j) + 1))), some (.int (iI ((i : Nat) : Int))), some (.int (iI (((j : Nat) : Int) + 1)))]) rfl ?_)
              refine k_goto dX6_yesShare_87 (tgt := 19) rfl ?_
              have e1 : ((ksm (fun m => ksm (fun p => kB (oF f (m : Int) (4 + (p : Int)) = 121)) 6) i) + ksm (fun p => kB (oF f ((i : Nat) : Int) (4 + (p : Int)) = 121)) (j + 1)) = (((ksm (fun m => ksm (fun p => kB (oF f (m : Int) (4 + (p : Int)) = 121)) 6) i) + ksm (fun p => kB (oF f ((i : Nat) : Int) (4 + (p : Int)) = 121)) j) + 0) := by
                show _ + (ksm (fun p => kB (oF f ((i : Nat) : Int) (4 + (p : Int)) = 121)) j + kB _) = _
                rw [kB_f (by omega)]
                omega
              refine k_loc (L' := [some (.ref o), some (.int (iI ((ksm (fun m => ksm (fun p => kB (oF f (m : Int) (4 + (p : Int)) = 121)) 6) i) + ksm (fun p => kB (oF f ((i : Nat) : Int) (4 + (p : Int)) = 121)) (j + 1)))), some (.int (iI (((ksm (fun m => ksm (fun p => kB (oF f (m : Int) (4 + (p : Int)) = 121 ∨ oF f (m : Int) (4 + (p : Int)) = 110)) 6) i) + ksm (fun p => kB (oF f ((i : Nat) : Int) (4 + (p : Int)) = 121 ∨ oF f ((i : Nat) : Int) (4 + (p : Int)) = 110)) j) + 1))), some (.int (iI ((i : Nat) : Int))), some (.int (iI (((j : Nat) : Int) + 1)))]) (by rw [e1]) ?_
              have e2 : ((ksm (fun m => ksm (fun p => kB (oF f (m : Int) (4 + (p : Int)) = 121 ∨ oF f (m : Int) (4 + (p : Int)) = 110)) 6) i) + ksm (fun p => kB (oF f ((i : Nat) : Int) (4 + (p : Int)) = 121 ∨ oF f ((i : Nat) : Int) (4 + (p : Int)) = 110)) (j + 1)) = (((ksm (fun m => ksm (fun p => kB (oF f (m : Int) (4 + (p : Int)) = 121 ∨ oF f (m : Int) (4 + (p : Int)) = 110)) 6) i) + ksm (fun p => kB (oF f ((i : Nat) : Int) (4 + (p : Int)) = 121 ∨ oF f ((i : Nat) : Int) (4 + (p : Int)) = 110)) j) + 1) := by
                show _ + (ksm (fun p => kB (oF f ((i : Nat) : Int) (4 + (p : Int)) = 121 ∨ oF f ((i : Nat) : Int) (4 + (p : Int)) = 110)) j + kB _) = _
                rw [kB_t (by omega)]
                omega
              refine k_loc (L' := [some (.ref o), some (.int (iI ((ksm (fun m => ksm (fun p => kB (oF f (m : Int) (4 + (p : Int)) = 121)) 6) i) + ksm (fun p => kB (oF f ((i : Nat) : Int) (4 + (p : Int)) = 121)) (j + 1)))), some (.int (iI ((ksm (fun m => ksm (fun p => kB (oF f (m : Int) (4 + (p : Int)) = 121 ∨ oF f (m : Int) (4 + (p : Int)) = 110)) 6) i) + ksm (fun p => kB (oF f ((i : Nat) : Int) (4 + (p : Int)) = 121 ∨ oF f ((i : Nat) : Int) (4 + (p : Int)) = 110)) (j + 1)))), some (.int (iI ((i : Nat) : Int))), some (.int (iI (((j : Nat) : Int) + 1)))]) (by rw [e2]) ?_
              exact ih19 _ (by omega) (j + 1) rfl (by omega)
            · skip
              refine k_aload_n (pc1 := 64) dX6_yesShare_63 rfl rfl ?_
              refine k_iload_n (pc1 := 65) dX6_yesShare_64 rfl rfl ?_
              refine k_iconst (pc1 := 66) dX6_yesShare_65 rfl ?_
              refine k_iload (pc1 := 68) dX6_yesShare_66 rfl rfl ?_
              refine k_iadd (a := 4) (b := ((j : Nat) : Int)) (pc1 := 69) dX6_yesShare_68 rfl ?_
              refine k_callVP dX6_yesShare_69 rfl lk_RX6_37 o_X6_of (w_X6_of hl hM ((i : Nat) : Int) (4 + ((j : Nat) : Int)) (by omega) (by omega)) (as := [.int (iI ((i : Nat) : Int)), .int (iI (4 + ((j : Nat) : Int)))]) hM.1 rfl rfl rfl rfl (by decide) (by decide) (k8 rfl) ?_
              refine k_bipush 110 (pc1 := 74) dX6_yesShare_72 rfl (by decide) ?_
              refine k_icmp_ne (a := (oF f ((i : Nat) : Int) (4 + ((j : Nat) : Int)))) (b := 110) dX6_yesShare_74 rfl (tgt := 81) rfl (by omega) (by decide) (fun c74 : (oF f ((i : Nat) : Int) (4 + ((j : Nat) : Int))) ≠ 110 => ?_) (fun c74 : (oF f ((i : Nat) : Int) (4 + ((j : Nat) : Int))) = 110 => ?_)
              · skip
                refine k_iconst (pc1 := 82) dX6_yesShare_81 rfl ?_
                refine k_iadd (a := ((ksm (fun m => ksm (fun p => kB (oF f (m : Int) (4 + (p : Int)) = 121 ∨ oF f (m : Int) (4 + (p : Int)) = 110)) 6) i) + ksm (fun p => kB (oF f ((i : Nat) : Int) (4 + (p : Int)) = 121 ∨ oF f ((i : Nat) : Int) (4 + (p : Int)) = 110)) j)) (b := 0) (pc1 := 83) dX6_yesShare_82 rfl ?_
                refine k_istore_n (pc1 := 84) dX6_yesShare_83 rfl (by decide) (k_loc (L' := [some (.ref o), some (.int (iI (((ksm (fun m => ksm (fun p => kB (oF f (m : Int) (4 + (p : Int)) = 121)) 6) i) + ksm (fun p => kB (oF f ((i : Nat) : Int) (4 + (p : Int)) = 121)) j) + 0))), some (.int (iI (((ksm (fun m => ksm (fun p => kB (oF f (m : Int) (4 + (p : Int)) = 121 ∨ oF f (m : Int) (4 + (p : Int)) = 110)) 6) i) + ksm (fun p => kB (oF f ((i : Nat) : Int) (4 + (p : Int)) = 121 ∨ oF f ((i : Nat) : Int) (4 + (p : Int)) = 110)) j) + 0))), some (.int (iI ((i : Nat) : Int))), some (.int (iI ((j : Nat) : Int)))]) rfl ?_)
                refine k_iinc (a := ((j : Nat) : Int)) (pc1 := 87) dX6_yesShare_84 rfl rfl (by decide) (k_loc (L' := [some (.ref o), some (.int (iI (((ksm (fun m => ksm (fun p => kB (oF f (m : Int) (4 + (p : Int)) = 121)) 6) i) + ksm (fun p => kB (oF f ((i : Nat) : Int) (4 + (p : Int)) = 121)) j) + 0))), some (.int (iI (((ksm (fun m => ksm (fun p => kB (oF f (m : Int) (4 + (p : Int)) = 121 ∨ oF f (m : Int) (4 + (p : Int)) = 110)) 6) i) + ksm (fun p => kB (oF f ((i : Nat) : Int) (4 + (p : Int)) = 121 ∨ oF f ((i : Nat) : Int) (4 + (p : Int)) = 110)) j) + 0))), some (.int (iI ((i : Nat) : Int))), some (.int (iI (((j : Nat) : Int) + 1)))]) rfl ?_)
                refine k_goto dX6_yesShare_87 (tgt := 19) rfl ?_
                have e1 : ((ksm (fun m => ksm (fun p => kB (oF f (m : Int) (4 + (p : Int)) = 121)) 6) i) + ksm (fun p => kB (oF f ((i : Nat) : Int) (4 + (p : Int)) = 121)) (j + 1)) = (((ksm (fun m => ksm (fun p => kB (oF f (m : Int) (4 + (p : Int)) = 121)) 6) i) + ksm (fun p => kB (oF f ((i : Nat) : Int) (4 + (p : Int)) = 121)) j) + 0) := by
                  show _ + (ksm (fun p => kB (oF f ((i : Nat) : Int) (4 + (p : Int)) = 121)) j + kB _) = _
                  rw [kB_f (by omega)]
                  omega
                refine k_loc (L' := [some (.ref o), some (.int (iI ((ksm (fun m => ksm (fun p => kB (oF f (m : Int) (4 + (p : Int)) = 121)) 6) i) + ksm (fun p => kB (oF f ((i : Nat) : Int) (4 + (p : Int)) = 121)) (j + 1)))), some (.int (iI (((ksm (fun m => ksm (fun p => kB (oF f (m : Int) (4 + (p : Int)) = 121 ∨ oF f (m : Int) (4 + (p : Int)) = 110)) 6) i) + ksm (fun p => kB (oF f ((i : Nat) : Int) (4 + (p : Int)) = 121 ∨ oF f ((i : Nat) : Int) (4 + (p : Int)) = 110)) j) + 0))), some (.int (iI ((i : Nat) : Int))), some (.int (iI (((j : Nat) : Int) + 1)))]) (by rw [e1]) ?_
                have e2 : ((ksm (fun m => ksm (fun p => kB (oF f (m : Int) (4 + (p : Int)) = 121 ∨ oF f (m : Int) (4 + (p : Int)) = 110)) 6) i) + ksm (fun p => kB (oF f ((i : Nat) : Int) (4 + (p : Int)) = 121 ∨ oF f ((i : Nat) : Int) (4 + (p : Int)) = 110)) (j + 1)) = (((ksm (fun m => ksm (fun p => kB (oF f (m : Int) (4 + (p : Int)) = 121 ∨ oF f (m : Int) (4 + (p : Int)) = 110)) 6) i) + ksm (fun p => kB (oF f ((i : Nat) : Int) (4 + (p : Int)) = 121 ∨ oF f ((i : Nat) : Int) (4 + (p : Int)) = 110)) j) + 0) := by
                  show _ + (ksm (fun p => kB (oF f ((i : Nat) : Int) (4 + (p : Int)) = 121 ∨ oF f ((i : Nat) : Int) (4 + (p : Int)) = 110)) j + kB _) = _
                  rw [kB_f (by omega)]
                  omega
                refine k_loc (L' := [some (.ref o), some (.int (iI ((ksm (fun m => ksm (fun p => kB (oF f (m : Int) (4 + (p : Int)) = 121)) 6) i) + ksm (fun p => kB (oF f ((i : Nat) : Int) (4 + (p : Int)) = 121)) (j + 1)))), some (.int (iI ((ksm (fun m => ksm (fun p => kB (oF f (m : Int) (4 + (p : Int)) = 121 ∨ oF f (m : Int) (4 + (p : Int)) = 110)) 6) i) + ksm (fun p => kB (oF f ((i : Nat) : Int) (4 + (p : Int)) = 121 ∨ oF f ((i : Nat) : Int) (4 + (p : Int)) = 110)) (j + 1)))), some (.int (iI ((i : Nat) : Int))), some (.int (iI (((j : Nat) : Int) + 1)))]) (by rw [e2]) ?_
                exact ih19 _ (by omega) (j + 1) rfl (by omega)
              · skip
                refine k_iconst (pc1 := 78) dX6_yesShare_77 rfl ?_
                refine k_goto dX6_yesShare_78 (tgt := 82) rfl ?_
                refine k_iadd (a := ((ksm (fun m => ksm (fun p => kB (oF f (m : Int) (4 + (p : Int)) = 121 ∨ oF f (m : Int) (4 + (p : Int)) = 110)) 6) i) + ksm (fun p => kB (oF f ((i : Nat) : Int) (4 + (p : Int)) = 121 ∨ oF f ((i : Nat) : Int) (4 + (p : Int)) = 110)) j)) (b := 1) (pc1 := 83) dX6_yesShare_82 rfl ?_
                refine k_istore_n (pc1 := 84) dX6_yesShare_83 rfl (by decide) (k_loc (L' := [some (.ref o), some (.int (iI (((ksm (fun m => ksm (fun p => kB (oF f (m : Int) (4 + (p : Int)) = 121)) 6) i) + ksm (fun p => kB (oF f ((i : Nat) : Int) (4 + (p : Int)) = 121)) j) + 0))), some (.int (iI (((ksm (fun m => ksm (fun p => kB (oF f (m : Int) (4 + (p : Int)) = 121 ∨ oF f (m : Int) (4 + (p : Int)) = 110)) 6) i) + ksm (fun p => kB (oF f ((i : Nat) : Int) (4 + (p : Int)) = 121 ∨ oF f ((i : Nat) : Int) (4 + (p : Int)) = 110)) j) + 1))), some (.int (iI ((i : Nat) : Int))), some (.int (iI ((j : Nat) : Int)))]) rfl ?_)
                refine k_iinc (a := ((j : Nat) : Int)) (pc1 := 87) dX6_yesShare_84 rfl rfl (by decide) (k_loc (L' := [some (.ref o), some (.int (iI (((ksm (fun m => ksm (fun p => kB (oF f (m : Int) (4 + (p : Int)) = 121)) 6) i) + ksm (fun p => kB (oF f ((i : Nat) : Int) (4 + (p : Int)) = 121)) j) + 0))), some (.int (iI (((ksm (fun m => ksm (fun p => kB (oF f (m : Int) (4 + (p : Int)) = 121 ∨ oF f (m : Int) (4 + (p : Int)) = 110)) 6) i) + ksm (fun p => kB (oF f ((i : Nat) : Int) (4 + (p : Int)) = 121 ∨ oF f ((i : Nat) : Int) (4 + (p : Int)) = 110)) j) + 1))), some (.int (iI ((i : Nat) : Int))), some (.int (iI (((j : Nat) : Int) + 1)))]) rfl ?_)
                refine k_goto dX6_yesShare_87 (tgt := 19) rfl ?_
                have e1 : ((ksm (fun m => ksm (fun p => kB (oF f (m : Int) (4 + (p : Int)) = 121)) 6) i) + ksm (fun p => kB (oF f ((i : Nat) : Int) (4 + (p : Int)) = 121)) (j + 1)) = (((ksm (fun m => ksm (fun p => kB (oF f (m : Int) (4 + (p : Int)) = 121)) 6) i) + ksm (fun p => kB (oF f ((i : Nat) : Int) (4 + (p : Int)) = 121)) j) + 0) := by
                  show _ + (ksm (fun p => kB (oF f ((i : Nat) : Int) (4 + (p : Int)) = 121)) j + kB _) = _
                  rw [kB_f (by omega)]
                  omega
                refine k_loc (L' := [some (.ref o), some (.int (iI ((ksm (fun m => ksm (fun p => kB (oF f (m : Int) (4 + (p : Int)) = 121)) 6) i) + ksm (fun p => kB (oF f ((i : Nat) : Int) (4 + (p : Int)) = 121)) (j + 1)))), some (.int (iI (((ksm (fun m => ksm (fun p => kB (oF f (m : Int) (4 + (p : Int)) = 121 ∨ oF f (m : Int) (4 + (p : Int)) = 110)) 6) i) + ksm (fun p => kB (oF f ((i : Nat) : Int) (4 + (p : Int)) = 121 ∨ oF f ((i : Nat) : Int) (4 + (p : Int)) = 110)) j) + 1))), some (.int (iI ((i : Nat) : Int))), some (.int (iI (((j : Nat) : Int) + 1)))]) (by rw [e1]) ?_
                have e2 : ((ksm (fun m => ksm (fun p => kB (oF f (m : Int) (4 + (p : Int)) = 121 ∨ oF f (m : Int) (4 + (p : Int)) = 110)) 6) i) + ksm (fun p => kB (oF f ((i : Nat) : Int) (4 + (p : Int)) = 121 ∨ oF f ((i : Nat) : Int) (4 + (p : Int)) = 110)) (j + 1)) = (((ksm (fun m => ksm (fun p => kB (oF f (m : Int) (4 + (p : Int)) = 121 ∨ oF f (m : Int) (4 + (p : Int)) = 110)) 6) i) + ksm (fun p => kB (oF f ((i : Nat) : Int) (4 + (p : Int)) = 121 ∨ oF f ((i : Nat) : Int) (4 + (p : Int)) = 110)) j) + 1) := by
                  show _ + (ksm (fun p => kB (oF f ((i : Nat) : Int) (4 + (p : Int)) = 121 ∨ oF f ((i : Nat) : Int) (4 + (p : Int)) = 110)) j + kB _) = _
                  rw [kB_t (by omega)]
                  omega
                refine k_loc (L' := [some (.ref o), some (.int (iI ((ksm (fun m => ksm (fun p => kB (oF f (m : Int) (4 + (p : Int)) = 121)) 6) i) + ksm (fun p => kB (oF f ((i : Nat) : Int) (4 + (p : Int)) = 121)) (j + 1)))), some (.int (iI ((ksm (fun m => ksm (fun p => kB (oF f (m : Int) (4 + (p : Int)) = 121 ∨ oF f (m : Int) (4 + (p : Int)) = 110)) 6) i) + ksm (fun p => kB (oF f ((i : Nat) : Int) (4 + (p : Int)) = 121 ∨ oF f ((i : Nat) : Int) (4 + (p : Int)) = 110)) (j + 1)))), some (.int (iI ((i : Nat) : Int))), some (.int (iI (((j : Nat) : Int) + 1)))]) (by rw [e2]) ?_
                exact ih19 _ (by omega) (j + 1) rfl (by omega)
          · skip
            refine k_iconst (pc1 := 42) dX6_yesShare_41 rfl ?_
            refine k_goto dX6_yesShare_42 (tgt := 46) rfl ?_
            refine k_iadd (a := ((ksm (fun m => ksm (fun p => kB (oF f (m : Int) (4 + (p : Int)) = 121)) 6) i) + ksm (fun p => kB (oF f ((i : Nat) : Int) (4 + (p : Int)) = 121)) j)) (b := 1) (pc1 := 47) dX6_yesShare_46 rfl ?_
            refine k_istore_n (pc1 := 48) dX6_yesShare_47 rfl (by decide) (k_loc (L' := [some (.ref o), some (.int (iI (((ksm (fun m => ksm (fun p => kB (oF f (m : Int) (4 + (p : Int)) = 121)) 6) i) + ksm (fun p => kB (oF f ((i : Nat) : Int) (4 + (p : Int)) = 121)) j) + 1))), some (.int (iI ((ksm (fun m => ksm (fun p => kB (oF f (m : Int) (4 + (p : Int)) = 121 ∨ oF f (m : Int) (4 + (p : Int)) = 110)) 6) i) + ksm (fun p => kB (oF f ((i : Nat) : Int) (4 + (p : Int)) = 121 ∨ oF f ((i : Nat) : Int) (4 + (p : Int)) = 110)) j))), some (.int (iI ((i : Nat) : Int))), some (.int (iI ((j : Nat) : Int)))]) rfl ?_)
            refine k_iload_n (pc1 := 49) dX6_yesShare_48 rfl rfl ?_
            refine k_aload_n (pc1 := 50) dX6_yesShare_49 rfl rfl ?_
            refine k_iload_n (pc1 := 51) dX6_yesShare_50 rfl rfl ?_
            refine k_iconst (pc1 := 52) dX6_yesShare_51 rfl ?_
            refine k_iload (pc1 := 54) dX6_yesShare_52 rfl rfl ?_
            refine k_iadd (a := 4) (b := ((j : Nat) : Int)) (pc1 := 55) dX6_yesShare_54 rfl ?_
            refine k_callVP dX6_yesShare_55 rfl lk_RX6_37 o_X6_of (w_X6_of hl hM ((i : Nat) : Int) (4 + ((j : Nat) : Int)) (by omega) (by omega)) (as := [.int (iI ((i : Nat) : Int)), .int (iI (4 + ((j : Nat) : Int)))]) hM.1 rfl rfl rfl rfl (by decide) (by decide) (k8 rfl) ?_
            refine k_bipush 121 (pc1 := 60) dX6_yesShare_58 rfl (by decide) ?_
            refine k_icmp_eq (a := (oF f ((i : Nat) : Int) (4 + ((j : Nat) : Int)))) (b := 121) dX6_yesShare_60 rfl (tgt := 77) rfl (by omega) (by decide) (fun c60 : (oF f ((i : Nat) : Int) (4 + ((j : Nat) : Int))) = 121 => ?_) (fun c60 : (oF f ((i : Nat) : Int) (4 + ((j : Nat) : Int))) ≠ 121 => ?_)
            · skip
              refine k_iconst (pc1 := 78) dX6_yesShare_77 rfl ?_
              refine k_goto dX6_yesShare_78 (tgt := 82) rfl ?_
              refine k_iadd (a := ((ksm (fun m => ksm (fun p => kB (oF f (m : Int) (4 + (p : Int)) = 121 ∨ oF f (m : Int) (4 + (p : Int)) = 110)) 6) i) + ksm (fun p => kB (oF f ((i : Nat) : Int) (4 + (p : Int)) = 121 ∨ oF f ((i : Nat) : Int) (4 + (p : Int)) = 110)) j)) (b := 1) (pc1 := 83) dX6_yesShare_82 rfl ?_
              refine k_istore_n (pc1 := 84) dX6_yesShare_83 rfl (by decide) (k_loc (L' := [some (.ref o), some (.int (iI (((ksm (fun m => ksm (fun p => kB (oF f (m : Int) (4 + (p : Int)) = 121)) 6) i) + ksm (fun p => kB (oF f ((i : Nat) : Int) (4 + (p : Int)) = 121)) j) + 1))), some (.int (iI (((ksm (fun m => ksm (fun p => kB (oF f (m : Int) (4 + (p : Int)) = 121 ∨ oF f (m : Int) (4 + (p : Int)) = 110)) 6) i) + ksm (fun p => kB (oF f ((i : Nat) : Int) (4 + (p : Int)) = 121 ∨ oF f ((i : Nat) : Int) (4 + (p : Int)) = 110)) j) + 1))), some (.int (iI ((i : Nat) : Int))), some (.int (iI ((j : Nat) : Int)))]) rfl ?_)
              refine k_iinc (a := ((j : Nat) : Int)) (pc1 := 87) dX6_yesShare_84 rfl rfl (by decide) (k_loc (L' := [some (.ref o), some (.int (iI (((ksm (fun m => ksm (fun p => kB (oF f (m : Int) (4 + (p : Int)) = 121)) 6) i) + ksm (fun p => kB (oF f ((i : Nat) : Int) (4 + (p : Int)) = 121)) j) + 1))), some (.int (iI (((ksm (fun m => ksm (fun p => kB (oF f (m : Int) (4 + (p : Int)) = 121 ∨ oF f (m : Int) (4 + (p : Int)) = 110)) 6) i) + ksm (fun p => kB (oF f ((i : Nat) : Int) (4 + (p : Int)) = 121 ∨ oF f ((i : Nat) : Int) (4 + (p : Int)) = 110)) j) + 1))), some (.int (iI ((i : Nat) : Int))), some (.int (iI (((j : Nat) : Int) + 1)))]) rfl ?_)
              refine k_goto dX6_yesShare_87 (tgt := 19) rfl ?_
              have e1 : ((ksm (fun m => ksm (fun p => kB (oF f (m : Int) (4 + (p : Int)) = 121)) 6) i) + ksm (fun p => kB (oF f ((i : Nat) : Int) (4 + (p : Int)) = 121)) (j + 1)) = (((ksm (fun m => ksm (fun p => kB (oF f (m : Int) (4 + (p : Int)) = 121)) 6) i) + ksm (fun p => kB (oF f ((i : Nat) : Int) (4 + (p : Int)) = 121)) j) + 1) := by
                show _ + (ksm (fun p => kB (oF f ((i : Nat) : Int) (4 + (p : Int)) = 121)) j + kB _) = _
                rw [kB_t (by omega)]
                omega
              refine k_loc (L' := [some (.ref o), some (.int (iI ((ksm (fun m => ksm (fun p => kB (oF f (m : Int) (4 + (p : Int)) = 121)) 6) i) + ksm (fun p => kB (oF f ((i : Nat) : Int) (4 + (p : Int)) = 121)) (j + 1)))), some (.int (iI (((ksm (fun m => ksm (fun p => kB (oF f (m : Int) (4 + (p : Int)) = 121 ∨ oF f (m : Int) (4 + (p : Int)) = 110)) 6) i) + ksm (fun p => kB (oF f ((i : Nat) : Int) (4 + (p : Int)) = 121 ∨ oF f ((i : Nat) : Int) (4 + (p : Int)) = 110)) j) + 1))), some (.int (iI ((i : Nat) : Int))), some (.int (iI (((j : Nat) : Int) + 1)))]) (by rw [e1]) ?_
              have e2 : ((ksm (fun m => ksm (fun p => kB (oF f (m : Int) (4 + (p : Int)) = 121 ∨ oF f (m : Int) (4 + (p : Int)) = 110)) 6) i) + ksm (fun p => kB (oF f ((i : Nat) : Int) (4 + (p : Int)) = 121 ∨ oF f ((i : Nat) : Int) (4 + (p : Int)) = 110)) (j + 1)) = (((ksm (fun m => ksm (fun p => kB (oF f (m : Int) (4 + (p : Int)) = 121 ∨ oF f (m : Int) (4 + (p : Int)) = 110)) 6) i) + ksm (fun p => kB (oF f ((i : Nat) : Int) (4 + (p : Int)) = 121 ∨ oF f ((i : Nat) : Int) (4 + (p : Int)) = 110)) j) + 1) := by
                show _ + (ksm (fun p => kB (oF f ((i : Nat) : Int) (4 + (p : Int)) = 121 ∨ oF f ((i : Nat) : Int) (4 + (p : Int)) = 110)) j + kB _) = _
                rw [kB_t (by omega)]
                omega
              refine k_loc (L' := [some (.ref o), some (.int (iI ((ksm (fun m => ksm (fun p => kB (oF f (m : Int) (4 + (p : Int)) = 121)) 6) i) + ksm (fun p => kB (oF f ((i : Nat) : Int) (4 + (p : Int)) = 121)) (j + 1)))), some (.int (iI ((ksm (fun m => ksm (fun p => kB (oF f (m : Int) (4 + (p : Int)) = 121 ∨ oF f (m : Int) (4 + (p : Int)) = 110)) 6) i) + ksm (fun p => kB (oF f ((i : Nat) : Int) (4 + (p : Int)) = 121 ∨ oF f ((i : Nat) : Int) (4 + (p : Int)) = 110)) (j + 1)))), some (.int (iI ((i : Nat) : Int))), some (.int (iI (((j : Nat) : Int) + 1)))]) (by rw [e2]) ?_
              exact ih19 _ (by omega) (j + 1) rfl (by omega)
            · skip
              refine k_aload_n (pc1 := 64) dX6_yesShare_63 rfl rfl ?_
              refine k_iload_n (pc1 := 65) dX6_yesShare_64 rfl rfl ?_
              refine k_iconst (pc1 := 66) dX6_yesShare_65 rfl ?_
              refine k_iload (pc1 := 68) dX6_yesShare_66 rfl rfl ?_
              refine k_iadd (a := 4) (b := ((j : Nat) : Int)) (pc1 := 69) dX6_yesShare_68 rfl ?_
              refine k_callVP dX6_yesShare_69 rfl lk_RX6_37 o_X6_of (w_X6_of hl hM ((i : Nat) : Int) (4 + ((j : Nat) : Int)) (by omega) (by omega)) (as := [.int (iI ((i : Nat) : Int)), .int (iI (4 + ((j : Nat) : Int)))]) hM.1 rfl rfl rfl rfl (by decide) (by decide) (k8 rfl) ?_
              refine k_bipush 110 (pc1 := 74) dX6_yesShare_72 rfl (by decide) ?_
              refine k_icmp_ne (a := (oF f ((i : Nat) : Int) (4 + ((j : Nat) : Int)))) (b := 110) dX6_yesShare_74 rfl (tgt := 81) rfl (by omega) (by decide) (fun c74 : (oF f ((i : Nat) : Int) (4 + ((j : Nat) : Int))) ≠ 110 => ?_) (fun c74 : (oF f ((i : Nat) : Int) (4 + ((j : Nat) : Int))) = 110 => ?_)
              · skip
                refine k_iconst (pc1 := 82) dX6_yesShare_81 rfl ?_
                refine k_iadd (a := ((ksm (fun m => ksm (fun p => kB (oF f (m : Int) (4 + (p : Int)) = 121 ∨ oF f (m : Int) (4 + (p : Int)) = 110)) 6) i) + ksm (fun p => kB (oF f ((i : Nat) : Int) (4 + (p : Int)) = 121 ∨ oF f ((i : Nat) : Int) (4 + (p : Int)) = 110)) j)) (b := 0) (pc1 := 83) dX6_yesShare_82 rfl ?_
                refine k_istore_n (pc1 := 84) dX6_yesShare_83 rfl (by decide) (k_loc (L' := [some (.ref o), some (.int (iI (((ksm (fun m => ksm (fun p => kB (oF f (m : Int) (4 + (p : Int)) = 121)) 6) i) + ksm (fun p => kB (oF f ((i : Nat) : Int) (4 + (p : Int)) = 121)) j) + 1))), some (.int (iI (((ksm (fun m => ksm (fun p => kB (oF f (m : Int) (4 + (p : Int)) = 121 ∨ oF f (m : Int) (4 + (p : Int)) = 110)) 6) i) + ksm (fun p => kB (oF f ((i : Nat) : Int) (4 + (p : Int)) = 121 ∨ oF f ((i : Nat) : Int) (4 + (p : Int)) = 110)) j) + 0))), some (.int (iI ((i : Nat) : Int))), some (.int (iI ((j : Nat) : Int)))]) rfl ?_)
                refine k_iinc (a := ((j : Nat) : Int)) (pc1 := 87) dX6_yesShare_84 rfl rfl (by decide) (k_loc (L' := [some (.ref o), some (.int (iI (((ksm (fun m => ksm (fun p => kB (oF f (m : Int) (4 + (p : Int)) = 121)) 6) i) + ksm (fun p => kB (oF f ((i : Nat) : Int) (4 + (p : Int)) = 121)) j) + 1))), some (.int (iI (((ksm (fun m => ksm (fun p => kB (oF f (m : Int) (4 + (p : Int)) = 121 ∨ oF f (m : Int) (4 + (p : Int)) = 110)) 6) i) + ksm (fun p => kB (oF f ((i : Nat) : Int) (4 + (p : Int)) = 121 ∨ oF f ((i : Nat) : Int) (4 + (p : Int)) = 110)) j) + 0))), some (.int (iI ((i : Nat) : Int))), some (.int (iI (((j : Nat) : Int) + 1)))]) rfl ?_)
                refine k_goto dX6_yesShare_87 (tgt := 19) rfl ?_
                have e1 : ((ksm (fun m => ksm (fun p => kB (oF f (m : Int) (4 + (p : Int)) = 121)) 6) i) + ksm (fun p => kB (oF f ((i : Nat) : Int) (4 + (p : Int)) = 121)) (j + 1)) = (((ksm (fun m => ksm (fun p => kB (oF f (m : Int) (4 + (p : Int)) = 121)) 6) i) + ksm (fun p => kB (oF f ((i : Nat) : Int) (4 + (p : Int)) = 121)) j) + 1) := by
                  show _ + (ksm (fun p => kB (oF f ((i : Nat) : Int) (4 + (p : Int)) = 121)) j + kB _) = _
                  rw [kB_t (by omega)]
                  omega
                refine k_loc (L' := [some (.ref o), some (.int (iI ((ksm (fun m => ksm (fun p => kB (oF f (m : Int) (4 + (p : Int)) = 121)) 6) i) + ksm (fun p => kB (oF f ((i : Nat) : Int) (4 + (p : Int)) = 121)) (j + 1)))), some (.int (iI (((ksm (fun m => ksm (fun p => kB (oF f (m : Int) (4 + (p : Int)) = 121 ∨ oF f (m : Int) (4 + (p : Int)) = 110)) 6) i) + ksm (fun p => kB (oF f ((i : Nat) : Int) (4 + (p : Int)) = 121 ∨ oF f ((i : Nat) : Int) (4 + (p : Int)) = 110)) j) + 0))), some (.int (iI ((i : Nat) : Int))), some (.int (iI (((j : Nat) : Int) + 1)))]) (by rw [e1]) ?_
                have e2 : ((ksm (fun m => ksm (fun p => kB (oF f (m : Int) (4 + (p : Int)) = 121 ∨ oF f (m : Int) (4 + (p : Int)) = 110)) 6) i) + ksm (fun p => kB (oF f ((i : Nat) : Int) (4 + (p : Int)) = 121 ∨ oF f ((i : Nat) : Int) (4 + (p : Int)) = 110)) (j + 1)) = (((ksm (fun m => ksm (fun p => kB (oF f (m : Int) (4 + (p : Int)) = 121 ∨ oF f (m : Int) (4 + (p : Int)) = 110)) 6) i) + ksm (fun p => kB (oF f ((i : Nat) : Int) (4 + (p : Int)) = 121 ∨ oF f ((i : Nat) : Int) (4 + (p : Int)) = 110)) j) + 0) := by
                  show _ + (ksm (fun p => kB (oF f ((i : Nat) : Int) (4 + (p : Int)) = 121 ∨ oF f ((i : Nat) : Int) (4 + (p : Int)) = 110)) j + kB _) = _
                  rw [kB_f (by omega)]
                  omega
                refine k_loc (L' := [some (.ref o), some (.int (iI ((ksm (fun m => ksm (fun p => kB (oF f (m : Int) (4 + (p : Int)) = 121)) 6) i) + ksm (fun p => kB (oF f ((i : Nat) : Int) (4 + (p : Int)) = 121)) (j + 1)))), some (.int (iI ((ksm (fun m => ksm (fun p => kB (oF f (m : Int) (4 + (p : Int)) = 121 ∨ oF f (m : Int) (4 + (p : Int)) = 110)) 6) i) + ksm (fun p => kB (oF f ((i : Nat) : Int) (4 + (p : Int)) = 121 ∨ oF f ((i : Nat) : Int) (4 + (p : Int)) = 110)) (j + 1)))), some (.int (iI ((i : Nat) : Int))), some (.int (iI (((j : Nat) : Int) + 1)))]) (by rw [e2]) ?_
                exact ih19 _ (by omega) (j + 1) rfl (by omega)
              · skip
                refine k_iconst (pc1 := 78) dX6_yesShare_77 rfl ?_
                refine k_goto dX6_yesShare_78 (tgt := 82) rfl ?_
                refine k_iadd (a := ((ksm (fun m => ksm (fun p => kB (oF f (m : Int) (4 + (p : Int)) = 121 ∨ oF f (m : Int) (4 + (p : Int)) = 110)) 6) i) + ksm (fun p => kB (oF f ((i : Nat) : Int) (4 + (p : Int)) = 121 ∨ oF f ((i : Nat) : Int) (4 + (p : Int)) = 110)) j)) (b := 1) (pc1 := 83) dX6_yesShare_82 rfl ?_
                refine k_istore_n (pc1 := 84) dX6_yesShare_83 rfl (by decide) (k_loc (L' := [some (.ref o), some (.int (iI (((ksm (fun m => ksm (fun p => kB (oF f (m : Int) (4 + (p : Int)) = 121)) 6) i) + ksm (fun p => kB (oF f ((i : Nat) : Int) (4 + (p : Int)) = 121)) j) + 1))), some (.int (iI (((ksm (fun m => ksm (fun p => kB (oF f (m : Int) (4 + (p : Int)) = 121 ∨ oF f (m : Int) (4 + (p : Int)) = 110)) 6) i) + ksm (fun p => kB (oF f ((i : Nat) : Int) (4 + (p : Int)) = 121 ∨ oF f ((i : Nat) : Int) (4 + (p : Int)) = 110)) j) + 1))), some (.int (iI ((i : Nat) : Int))), some (.int (iI ((j : Nat) : Int)))]) rfl ?_)
                refine k_iinc (a := ((j : Nat) : Int)) (pc1 := 87) dX6_yesShare_84 rfl rfl (by decide) (k_loc (L' := [some (.ref o), some (.int (iI (((ksm (fun m => ksm (fun p => kB (oF f (m : Int) (4 + (p : Int)) = 121)) 6) i) + ksm (fun p => kB (oF f ((i : Nat) : Int) (4 + (p : Int)) = 121)) j) + 1))), some (.int (iI (((ksm (fun m => ksm (fun p => kB (oF f (m : Int) (4 + (p : Int)) = 121 ∨ oF f (m : Int) (4 + (p : Int)) = 110)) 6) i) + ksm (fun p => kB (oF f ((i : Nat) : Int) (4 + (p : Int)) = 121 ∨ oF f ((i : Nat) : Int) (4 + (p : Int)) = 110)) j) + 1))), some (.int (iI ((i : Nat) : Int))), some (.int (iI (((j : Nat) : Int) + 1)))]) rfl ?_)
                refine k_goto dX6_yesShare_87 (tgt := 19) rfl ?_
                have e1 : ((ksm (fun m => ksm (fun p => kB (oF f (m : Int) (4 + (p : Int)) = 121)) 6) i) + ksm (fun p => kB (oF f ((i : Nat) : Int) (4 + (p : Int)) = 121)) (j + 1)) = (((ksm (fun m => ksm (fun p => kB (oF f (m : Int) (4 + (p : Int)) = 121)) 6) i) + ksm (fun p => kB (oF f ((i : Nat) : Int) (4 + (p : Int)) = 121)) j) + 1) := by
                  show _ + (ksm (fun p => kB (oF f ((i : Nat) : Int) (4 + (p : Int)) = 121)) j + kB _) = _
                  rw [kB_t (by omega)]
                  omega
                refine k_loc (L' := [some (.ref o), some (.int (iI ((ksm (fun m => ksm (fun p => kB (oF f (m : Int) (4 + (p : Int)) = 121)) 6) i) + ksm (fun p => kB (oF f ((i : Nat) : Int) (4 + (p : Int)) = 121)) (j + 1)))), some (.int (iI (((ksm (fun m => ksm (fun p => kB (oF f (m : Int) (4 + (p : Int)) = 121 ∨ oF f (m : Int) (4 + (p : Int)) = 110)) 6) i) + ksm (fun p => kB (oF f ((i : Nat) : Int) (4 + (p : Int)) = 121 ∨ oF f ((i : Nat) : Int) (4 + (p : Int)) = 110)) j) + 1))), some (.int (iI ((i : Nat) : Int))), some (.int (iI (((j : Nat) : Int) + 1)))]) (by rw [e1]) ?_
                have e2 : ((ksm (fun m => ksm (fun p => kB (oF f (m : Int) (4 + (p : Int)) = 121 ∨ oF f (m : Int) (4 + (p : Int)) = 110)) 6) i) + ksm (fun p => kB (oF f ((i : Nat) : Int) (4 + (p : Int)) = 121 ∨ oF f ((i : Nat) : Int) (4 + (p : Int)) = 110)) (j + 1)) = (((ksm (fun m => ksm (fun p => kB (oF f (m : Int) (4 + (p : Int)) = 121 ∨ oF f (m : Int) (4 + (p : Int)) = 110)) 6) i) + ksm (fun p => kB (oF f ((i : Nat) : Int) (4 + (p : Int)) = 121 ∨ oF f ((i : Nat) : Int) (4 + (p : Int)) = 110)) j) + 1) := by
                  show _ + (ksm (fun p => kB (oF f ((i : Nat) : Int) (4 + (p : Int)) = 121 ∨ oF f ((i : Nat) : Int) (4 + (p : Int)) = 110)) j + kB _) = _
                  rw [kB_t (by omega)]
                  omega
                refine k_loc (L' := [some (.ref o), some (.int (iI ((ksm (fun m => ksm (fun p => kB (oF f (m : Int) (4 + (p : Int)) = 121)) 6) i) + ksm (fun p => kB (oF f ((i : Nat) : Int) (4 + (p : Int)) = 121)) (j + 1)))), some (.int (iI ((ksm (fun m => ksm (fun p => kB (oF f (m : Int) (4 + (p : Int)) = 121 ∨ oF f (m : Int) (4 + (p : Int)) = 110)) 6) i) + ksm (fun p => kB (oF f ((i : Nat) : Int) (4 + (p : Int)) = 121 ∨ oF f ((i : Nat) : Int) (4 + (p : Int)) = 110)) (j + 1)))), some (.int (iI ((i : Nat) : Int))), some (.int (iI (((j : Nat) : Int) + 1)))]) (by rw [e2]) ?_
                exact ih19 _ (by omega) (j + 1) rfl (by omega)
      refine k_loc (L' := [some (.ref o), some (.int (iI ((ksm (fun m => ksm (fun p => kB (oF f (m : Int) (4 + (p : Int)) = 121)) 6) i) + ksm (fun p => kB (oF f ((i : Nat) : Int) (4 + (p : Int)) = 121)) 0))), some (.int (iI (ksm (fun m => ksm (fun p => kB (oF f (m : Int) (4 + (p : Int)) = 121 ∨ oF f (m : Int) (4 + (p : Int)) = 110)) 6) i))), some (.int (iI ((i : Nat) : Int))), some (.int (iI 0))]) (by rw [show ksm (fun p => kB (oF f ((i : Nat) : Int) (4 + (p : Int)) = 121)) 0 = 0 from rfl, Int.add_zero]) ?_
      refine k_loc (L' := [some (.ref o), some (.int (iI ((ksm (fun m => ksm (fun p => kB (oF f (m : Int) (4 + (p : Int)) = 121)) 6) i) + ksm (fun p => kB (oF f ((i : Nat) : Int) (4 + (p : Int)) = 121)) 0))), some (.int (iI ((ksm (fun m => ksm (fun p => kB (oF f (m : Int) (4 + (p : Int)) = 121 ∨ oF f (m : Int) (4 + (p : Int)) = 110)) 6) i) + ksm (fun p => kB (oF f ((i : Nat) : Int) (4 + (p : Int)) = 121 ∨ oF f ((i : Nat) : Int) (4 + (p : Int)) = 110)) 0))), some (.int (iI ((i : Nat) : Int))), some (.int (iI 0))]) (by rw [show ksm (fun p => kB (oF f ((i : Nat) : Int) (4 + (p : Int)) = 121 ∨ oF f ((i : Nat) : Int) (4 + (p : Int)) = 110)) 0 = 0 from rfl, Int.add_zero]) ?_
      exact hloop19 _ 0 rfl (by omega)
  exact hloop6 _ 0 rfl (by omega)
theorem w_X6_yesShareF {l : Launch} {G : kG} {h : kAH} {o g r : Nat} {c : Int} {f : Nat → Int} (hl : l.stackTraces = false) (hM : kMd G h o g r c (-1) (-1) f) (hW : kWf f) (hc : ¬ alF f = 0) : kC l G m_X6_yesShare 2 0 0 [.ref o] h (kMq G o g r (some (.float (FP.fdiv (FP.i2f (iI (ysF f))) (FP.i2f (iI (alF f)))))) 0 (-1) (-1) f h) kNo := by
  have h8 := kWf_cnt hW
  have h9 := kWf_nxt hW
  refine kC_of hl rfl rfl (Nat.le_of_ble_eq_true rfl) (L := [some (.ref o), none, none, none, none]) rfl ?_
  refine k_iconst (pc1 := 1) dX6_yesShare_0 rfl ?_
  refine k_istore_n (pc1 := 2) dX6_yesShare_1 rfl (by decide) (k_loc (L' := [some (.ref o), some (.int (iI 0)), none, none, none]) rfl ?_)
  refine k_iconst (pc1 := 3) dX6_yesShare_2 rfl ?_
  refine k_istore_n (pc1 := 4) dX6_yesShare_3 rfl (by decide) (k_loc (L' := [some (.ref o), some (.int (iI 0)), some (.int (iI 0)), none, none]) rfl ?_)
  refine k_iconst (pc1 := 5) dX6_yesShare_4 rfl ?_
  refine k_istore_n (pc1 := 6) dX6_yesShare_5 rfl (by decide) (k_loc (L' := [some (.ref o), some (.int (iI 0)), some (.int (iI 0)), some (.int (iI 0)), none]) rfl ?_)
  have hloop6 : ∀ (zz : Nat) (i : Nat), zz = (f 1 - ((i : Nat) : Int)).toNat → (((i : Nat) : Int) ≤ f 1) → kW l G m_X6_yesShare 2 (kMq G o g r (some (.float (FP.fdiv (FP.i2f (iI (ysF f))) (FP.i2f (iI (alF f)))))) 0 (-1) (-1) f h) kNo 0 0 6 [some (.ref o), some (.int (iI (ksm (fun m => ksm (fun p => kB (oF f (m : Int) (4 + (p : Int)) = 121)) 6) i))), some (.int (iI (ksm (fun m => ksm (fun p => kB (oF f (m : Int) (4 + (p : Int)) = 121 ∨ oF f (m : Int) (4 + (p : Int)) = 110)) 6) i))), some (.int (iI ((i : Nat) : Int))), none] [] h := by
    intro zz
    induction zz using Nat.strongRecOn with
    | ind zz ih6 =>
    intro i hr6 hi
    refine k_iload_n (pc1 := 7) dX6_yesShare_6 rfl rfl ?_
    refine k_aload_n (pc1 := 8) dX6_yesShare_7 rfl rfl ?_
    refine k_get (pc1 := 11) dX6_yesShare_8 rfl fd_RX6_7 hM.1 (v := .ref g) rfl ?_
    refine k_iconst (pc1 := 12) dX6_yesShare_11 rfl ?_
    refine k_iald (i := 1) (f := f) (pc1 := 13) dX6_yesShare_12 rfl hM.2.1 (N := 380) (by omega) (by omega) (by decide) (k_val (v' := .int (iI (f 1))) rfl ?_)
    refine k_icmp_ge (a := ((i : Nat) : Int)) (b := (f 1)) dX6_yesShare_13 rfl (tgt := 96) rfl (by omega) (by omega) (fun c13 : (f 1) ≤ ((i : Nat) : Int) => ?_) (fun c13 : ((i : Nat) : Int) < (f 1) => ?_)
    · skip
      have ei : i = (f 1).toNat := by omega
      subst ei
      have hyr : 0 ≤ ysF f ∧ ysF f ≤ alF f ∧ alF f ≤ 48 := ysF_r h8
      replace hyr : 0 ≤ (ksm (fun m => ksm (fun p => kB (oF f (m : Int) (4 + (p : Int)) = 121)) 6) (f 1).toNat) ∧ (ksm (fun m => ksm (fun p => kB (oF f (m : Int) (4 + (p : Int)) = 121)) 6) (f 1).toNat) ≤ (ksm (fun m => ksm (fun p => kB (oF f (m : Int) (4 + (p : Int)) = 121 ∨ oF f (m : Int) (4 + (p : Int)) = 110)) 6) (f 1).toNat) ∧ (ksm (fun m => ksm (fun p => kB (oF f (m : Int) (4 + (p : Int)) = 121 ∨ oF f (m : Int) (4 + (p : Int)) = 110)) 6) (f 1).toNat) ≤ 48 := hyr
      replace hc : ¬ (ksm (fun m => ksm (fun p => kB (oF f (m : Int) (4 + (p : Int)) = 121 ∨ oF f (m : Int) (4 + (p : Int)) = 110)) 6) (f 1).toNat) = 0 := hc
      refine k_aload_n (pc1 := 97) dX6_yesShare_96 rfl rfl ?_
      refine k_iload_n (pc1 := 98) dX6_yesShare_97 rfl rfl ?_
      refine k_if_ne (a := (ksm (fun m => ksm (fun p => kB (oF f (m : Int) (4 + (p : Int)) = 121 ∨ oF f (m : Int) (4 + (p : Int)) = 110)) 6) (f 1).toNat)) dX6_yesShare_98 rfl (tgt := 105) rfl (by omega) (fun c98 : (ksm (fun m => ksm (fun p => kB (oF f (m : Int) (4 + (p : Int)) = 121 ∨ oF f (m : Int) (4 + (p : Int)) = 110)) 6) (f 1).toNat) ≠ 0 => ?_) (fun c98 : (ksm (fun m => ksm (fun p => kB (oF f (m : Int) (4 + (p : Int)) = 121 ∨ oF f (m : Int) (4 + (p : Int)) = 110)) 6) (f 1).toNat) = 0 => ?_)
      · skip
        refine k_iconst (pc1 := 106) dX6_yesShare_105 rfl ?_
        refine k_callVM (c' := 0) (wm' := (-1)) (wd' := (-1)) (f' := f) (v := .int (iI 0)) dX6_yesShare_106 rfl lk_RX6_34 o_X6_fails hM (w_X6_failsF hl hM) (as := [.int (iI 0)]) rfl rfl rfl (by decide) (by decide) (k8 rfl) (fun h196 hM196 hX196 => ?_)
        have hF196 := kFm_tr (kFm_rf o g r h) hX196
        refine k_if_eq (a := 0) dX6_yesShare_109 rfl (tgt := 116) rfl (by decide) (fun _ => ?_) (fun c => absurd c (by decide))
        refine k_iload_n (pc1 := 117) dX6_yesShare_116 rfl rfl ?_
        refine k_i2f (pc1 := 118) dX6_yesShare_117 rfl ?_
        refine k_iload_n (pc1 := 119) dX6_yesShare_118 rfl rfl ?_
        refine k_i2f (pc1 := 120) dX6_yesShare_119 rfl ?_
        refine k_fdiv (pc1 := 121) dX6_yesShare_120 rfl (fp_f (by omega) (by omega)) ?_
        first | (exfalso; omega) | exact k_fret dX6_yesShare_121 rfl ⟨rfl, hM196, hF196⟩
      · skip
        refine k_iconst (pc1 := 102) dX6_yesShare_101 rfl ?_
        refine k_goto dX6_yesShare_102 (tgt := 106) rfl ?_
        refine k_callVM (c' := 1) (wm' := (-1)) (wd' := (-1)) (f' := f) (v := .int (iI 1)) dX6_yesShare_106 rfl lk_RX6_34 o_X6_fails hM (w_X6_failsT hl hM (by decide)) (as := [.int (iI 1)]) rfl rfl rfl (by decide) (by decide) (k8 rfl) (fun h197 hM197 hX197 => ?_)
        have hF197 := kFm_tr (kFm_rf o g r h) hX197
        refine k_if_eq (a := 1) dX6_yesShare_109 rfl (tgt := 116) rfl (by decide) (fun c => absurd c (by decide)) (fun _ => ?_)
        exfalso; omega
    · skip
      have hm := kWf_m hW (m := ((i : Nat) : Int)) (by omega) (by omega)
      refine k_iconst (pc1 := 17) dX6_yesShare_16 rfl ?_
      refine k_istore (pc1 := 19) dX6_yesShare_17 rfl (by decide) (k_loc (L' := [some (.ref o), some (.int (iI (ksm (fun m => ksm (fun p => kB (oF f (m : Int) (4 + (p : Int)) = 121)) 6) i))), some (.int (iI (ksm (fun m => ksm (fun p => kB (oF f (m : Int) (4 + (p : Int)) = 121 ∨ oF f (m : Int) (4 + (p : Int)) = 110)) 6) i))), some (.int (iI ((i : Nat) : Int))), some (.int (iI 0))]) rfl ?_)
      have hloop19 : ∀ (zz : Nat) (j : Nat), zz = 6 - j → (j ≤ 6) → kW l G m_X6_yesShare 2 (kMq G o g r (some (.float (FP.fdiv (FP.i2f (iI (ysF f))) (FP.i2f (iI (alF f)))))) 0 (-1) (-1) f h) kNo 0 0 19 [some (.ref o), some (.int (iI ((ksm (fun m => ksm (fun p => kB (oF f (m : Int) (4 + (p : Int)) = 121)) 6) i) + ksm (fun p => kB (oF f ((i : Nat) : Int) (4 + (p : Int)) = 121)) j))), some (.int (iI ((ksm (fun m => ksm (fun p => kB (oF f (m : Int) (4 + (p : Int)) = 121 ∨ oF f (m : Int) (4 + (p : Int)) = 110)) 6) i) + ksm (fun p => kB (oF f ((i : Nat) : Int) (4 + (p : Int)) = 121 ∨ oF f ((i : Nat) : Int) (4 + (p : Int)) = 110)) j))), some (.int (iI ((i : Nat) : Int))), some (.int (iI ((j : Nat) : Int)))] [] h := by
        intro zz
        induction zz using Nat.strongRecOn with
        | ind zz ih19 =>
        intro j hr19 hj
        refine k_iload (pc1 := 21) dX6_yesShare_19 rfl rfl ?_
        refine k_bipush 6 (pc1 := 23) dX6_yesShare_21 rfl (by decide) ?_
        refine k_icmp_ge (a := ((j : Nat) : Int)) (b := 6) dX6_yesShare_23 rfl (tgt := 90) rfl (by omega) (by decide) (fun c23 : 6 ≤ ((j : Nat) : Int) => ?_) (fun c23 : ((j : Nat) : Int) < 6 => ?_)
        · skip
          refine k_iinc (a := ((i : Nat) : Int)) (pc1 := 93) dX6_yesShare_90 rfl rfl (by decide) (k_loc (L' := [some (.ref o), some (.int (iI ((ksm (fun m => ksm (fun p => kB (oF f (m : Int) (4 + (p : Int)) = 121)) 6) i) + ksm (fun p => kB (oF f ((i : Nat) : Int) (4 + (p : Int)) = 121)) j))), some (.int (iI ((ksm (fun m => ksm (fun p => kB (oF f (m : Int) (4 + (p : Int)) = 121 ∨ oF f (m : Int) (4 + (p : Int)) = 110)) 6) i) + ksm (fun p => kB (oF f ((i : Nat) : Int) (4 + (p : Int)) = 121 ∨ oF f ((i : Nat) : Int) (4 + (p : Int)) = 110)) j))), some (.int (iI (((i : Nat) : Int) + 1))), some (.int (iI ((j : Nat) : Int)))]) rfl ?_)
          refine k_goto dX6_yesShare_93 (tgt := 6) rfl ?_
          refine k_forget 4 (k_loc (L' := [some (.ref o), some (.int (iI ((ksm (fun m => ksm (fun p => kB (oF f (m : Int) (4 + (p : Int)) = 121)) 6) i) + ksm (fun p => kB (oF f ((i : Nat) : Int) (4 + (p : Int)) = 121)) j))), some (.int (iI ((ksm (fun m => ksm (fun p => kB (oF f (m : Int) (4 + (p : Int)) = 121 ∨ oF f (m : Int) (4 + (p : Int)) = 110)) 6) i) + ksm (fun p => kB (oF f ((i : Nat) : Int) (4 + (p : Int)) = 121 ∨ oF f ((i : Nat) : Int) (4 + (p : Int)) = 110)) j))), some (.int (iI (((i : Nat) : Int) + 1))), none]) rfl ?_)
          have ej : j = 6 := by omega
          subst ej
          exact ih6 _ (by omega) (i + 1) rfl (by omega)
        · skip
          have hpp := kWf_p hW (m := ((i : Nat) : Int)) (p := ((j : Nat) : Int)) (by omega) (by omega) (by omega) (by omega)
          refine k_iload_n (pc1 := 27) dX6_yesShare_26 rfl rfl ?_
          refine k_aload_n (pc1 := 28) dX6_yesShare_27 rfl rfl ?_
          refine k_iload_n (pc1 := 29) dX6_yesShare_28 rfl rfl ?_
          refine k_iconst (pc1 := 30) dX6_yesShare_29 rfl ?_
          refine k_iload (pc1 := 32) dX6_yesShare_30 rfl rfl ?_
          refine k_iadd (a := 4) (b := ((j : Nat) : Int)) (pc1 := 33) dX6_yesShare_32 rfl ?_
          refine k_callVP dX6_yesShare_33 rfl lk_RX6_37 o_X6_of (w_X6_of hl hM ((i : Nat) : Int) (4 + ((j : Nat) : Int)) (by omega) (by omega)) (as := [.int (iI ((i : Nat) : Int)), .int (iI (4 + ((j : Nat) : Int)))]) hM.1 rfl rfl rfl rfl (by decide) (by decide) (k8 rfl) ?_
          refine k_bipush 121 (pc1 := 38) dX6_yesShare_36 rfl (by decide) ?_
          refine k_icmp_ne (a := (oF f ((i : Nat) : Int) (4 + ((j : Nat) : Int)))) (b := 121) dX6_yesShare_38 rfl (tgt := 45) rfl (by omega) (by decide) (fun c38 : (oF f ((i : Nat) : Int) (4 + ((j : Nat) : Int))) ≠ 121 => ?_) (fun c38 : (oF f ((i : Nat) : Int) (4 + ((j : Nat) : Int))) = 121 => ?_)
          · skip
            refine k_iconst (pc1 := 46) dX6_yesShare_45 rfl ?_
            refine k_iadd (a := ((ksm (fun m => ksm (fun p => kB (oF f (m : Int) (4 + (p : Int)) = 121)) 6) i) + ksm (fun p => kB (oF f ((i : Nat) : Int) (4 + (p : Int)) = 121)) j)) (b := 0) (pc1 := 47) dX6_yesShare_46 rfl ?_
            refine k_istore_n (pc1 := 48) dX6_yesShare_47 rfl (by decide) (k_loc (L' := [some (.ref o), some (.int (iI (((ksm (fun m => ksm (fun p => kB (oF f (m : Int) (4 + (p : Int)) = 121)) 6) i) + ksm (fun p => kB (oF f ((i : Nat) : Int) (4 + (p : Int)) = 121)) j) + 0))), some (.int (iI ((ksm (fun m => ksm (fun p => kB (oF f (m : Int) (4 + (p : Int)) = 121 ∨ oF f (m : Int) (4 + (p : Int)) = 110)) 6) i) + ksm (fun p => kB (oF f ((i : Nat) : Int) (4 + (p : Int)) = 121 ∨ oF f ((i : Nat) : Int) (4 + (p : Int)) = 110)) j))), some (.int (iI ((i : Nat) : Int))), some (.int (iI ((j : Nat) : Int)))]) rfl ?_)
            refine k_iload_n (pc1 := 49) dX6_yesShare_48 rfl rfl ?_
            refine k_aload_n (pc1 := 50) dX6_yesShare_49 rfl rfl ?_
            refine k_iload_n (pc1 := 51) dX6_yesShare_50 rfl rfl ?_
            refine k_iconst (pc1 := 52) dX6_yesShare_51 rfl ?_
            refine k_iload (pc1 := 54) dX6_yesShare_52 rfl rfl ?_
            refine k_iadd (a := 4) (b := ((j : Nat) : Int)) (pc1 := 55) dX6_yesShare_54 rfl ?_
            refine k_callVP dX6_yesShare_55 rfl lk_RX6_37 o_X6_of (w_X6_of hl hM ((i : Nat) : Int) (4 + ((j : Nat) : Int)) (by omega) (by omega)) (as := [.int (iI ((i : Nat) : Int)), .int (iI (4 + ((j : Nat) : Int)))]) hM.1 rfl rfl rfl rfl (by decide) (by decide) (k8 rfl) ?_
            refine k_bipush 121 (pc1 := 60) dX6_yesShare_58 rfl (by decide) ?_
            refine k_icmp_eq (a := (oF f ((i : Nat) : Int) (4 + ((j : Nat) : Int)))) (b := 121) dX6_yesShare_60 rfl (tgt := 77) rfl (by omega) (by decide) (fun c60 : (oF f ((i : Nat) : Int) (4 + ((j : Nat) : Int))) = 121 => ?_) (fun c60 : (oF f ((i : Nat) : Int) (4 + ((j : Nat) : Int))) ≠ 121 => ?_)
            · skip
              refine k_iconst (pc1 := 78) dX6_yesShare_77 rfl ?_
              refine k_goto dX6_yesShare_78 (tgt := 82) rfl ?_
              refine k_iadd (a := ((ksm (fun m => ksm (fun p => kB (oF f (m : Int) (4 + (p : Int)) = 121 ∨ oF f (m : Int) (4 + (p : Int)) = 110)) 6) i) + ksm (fun p => kB (oF f ((i : Nat) : Int) (4 + (p : Int)) = 121 ∨ oF f ((i : Nat) : Int) (4 + (p : Int)) = 110)) j)) (b := 1) (pc1 := 83) dX6_yesShare_82 rfl ?_
              refine k_istore_n (pc1 := 84) dX6_yesShare_83 rfl (by decide) (k_loc (L' := [some (.ref o), some (.int (iI (((ksm (fun m => ksm (fun p => kB (oF f (m : Int) (4 + (p : Int)) = 121)) 6) i) + ksm (fun p => kB (oF f ((i : Nat) : Int) (4 + (p : Int)) = 121)) j) + 0))), some (.int (iI (((ksm (fun m => ksm (fun p => kB (oF f (m : Int) (4 + (p : Int)) = 121 ∨ oF f (m : Int) (4 + (p : Int)) = 110)) 6) i) + ksm (fun p => kB (oF f ((i : Nat) : Int) (4 + (p : Int)) = 121 ∨ oF f ((i : Nat) : Int) (4 + (p : Int)) = 110)) j) + 1))), some (.int (iI ((i : Nat) : Int))), some (.int (iI ((j : Nat) : Int)))]) rfl ?_)
              refine k_iinc (a := ((j : Nat) : Int)) (pc1 := 87) dX6_yesShare_84 rfl rfl (by decide) (k_loc (L' := [some (.ref o), some (.int (iI (((ksm (fun m => ksm (fun p => kB (oF f (m : Int) (4 + (p : Int)) = 121)) 6) i) + ksm (fun p => kB (oF f ((i : Nat) : Int) (4 + (p : Int)) = 121)) j) + 0))), some (.int (iI (((ksm (fun m => ksm (fun p => kB (oF f (m : Int) (4 + (p : Int)) = 121 ∨ oF f (m : Int) (4 + (p : Int)) = 110)) 6) i) + ksm (fun p => kB (oF f ((i : Nat) : Int) (4 + (p : Int)) = 121 ∨ oF f ((i : Nat) : Int) (4 + (p : Int)) = 110)) j) + 1))), some (.int (iI ((i : Nat) : Int))), some (.int (iI (((j : Nat) : Int) + 1)))]) rfl ?_)
              refine k_goto dX6_yesShare_87 (tgt := 19) rfl ?_
              have e1 : ((ksm (fun m => ksm (fun p => kB (oF f (m : Int) (4 + (p : Int)) = 121)) 6) i) + ksm (fun p => kB (oF f ((i : Nat) : Int) (4 + (p : Int)) = 121)) (j + 1)) = (((ksm (fun m => ksm (fun p => kB (oF f (m : Int) (4 + (p : Int)) = 121)) 6) i) + ksm (fun p => kB (oF f ((i : Nat) : Int) (4 + (p : Int)) = 121)) j) + 0) := by
                show _ + (ksm (fun p => kB (oF f ((i : Nat) : Int) (4 + (p : Int)) = 121)) j + kB _) = _
                rw [kB_f (by omega)]
                omega
              refine k_loc (L' := [some (.ref o), some (.int (iI ((ksm (fun m => ksm (fun p => kB (oF f (m : Int) (4 + (p : Int)) = 121)) 6) i) + ksm (fun p => kB (oF f ((i : Nat) : Int) (4 + (p : Int)) = 121)) (j + 1)))), some (.int (iI (((ksm (fun m => ksm (fun p => kB (oF f (m : Int) (4 + (p : Int)) = 121 ∨ oF f (m : Int) (4 + (p : Int)) = 110)) 6) i) + ksm (fun p => kB (oF f ((i : Nat) : Int) (4 + (p : Int)) = 121 ∨ oF f ((i : Nat) : Int) (4 + (p : Int)) = 110)) j) + 1))), some (.int (iI ((i : Nat) : Int))), some (.int (iI (((j : Nat) : Int) + 1)))]) (by rw [e1]) ?_
              have e2 : ((ksm (fun m => ksm (fun p => kB (oF f (m : Int) (4 + (p : Int)) = 121 ∨ oF f (m : Int) (4 + (p : Int)) = 110)) 6) i) + ksm (fun p => kB (oF f ((i : Nat) : Int) (4 + (p : Int)) = 121 ∨ oF f ((i : Nat) : Int) (4 + (p : Int)) = 110)) (j + 1)) = (((ksm (fun m => ksm (fun p => kB (oF f (m : Int) (4 + (p : Int)) = 121 ∨ oF f (m : Int) (4 + (p : Int)) = 110)) 6) i) + ksm (fun p => kB (oF f ((i : Nat) : Int) (4 + (p : Int)) = 121 ∨ oF f ((i : Nat) : Int) (4 + (p : Int)) = 110)) j) + 1) := by
                show _ + (ksm (fun p => kB (oF f ((i : Nat) : Int) (4 + (p : Int)) = 121 ∨ oF f ((i : Nat) : Int) (4 + (p : Int)) = 110)) j + kB _) = _
                rw [kB_t (by omega)]
                omega
              refine k_loc (L' := [some (.ref o), some (.int (iI ((ksm (fun m => ksm (fun p => kB (oF f (m : Int) (4 + (p : Int)) = 121)) 6) i) + ksm (fun p => kB (oF f ((i : Nat) : Int) (4 + (p : Int)) = 121)) (j + 1)))), some (.int (iI ((ksm (fun m => ksm (fun p => kB (oF f (m : Int) (4 + (p : Int)) = 121 ∨ oF f (m : Int) (4 + (p : Int)) = 110)) 6) i) + ksm (fun p => kB (oF f ((i : Nat) : Int) (4 + (p : Int)) = 121 ∨ oF f ((i : Nat) : Int) (4 + (p : Int)) = 110)) (j + 1)))), some (.int (iI ((i : Nat) : Int))), some (.int (iI (((j : Nat) : Int) + 1)))]) (by rw [e2]) ?_
              exact ih19 _ (by omega) (j + 1) rfl (by omega)
            · skip
              refine k_aload_n (pc1 := 64) dX6_yesShare_63 rfl rfl ?_
              refine k_iload_n (pc1 := 65) dX6_yesShare_64 rfl rfl ?_
              refine k_iconst (pc1 := 66) dX6_yesShare_65 rfl ?_
              refine k_iload (pc1 := 68) dX6_yesShare_66 rfl rfl ?_
              refine k_iadd (a := 4) (b := ((j : Nat) : Int)) (pc1 := 69) dX6_yesShare_68 rfl ?_
              refine k_callVP dX6_yesShare_69 rfl lk_RX6_37 o_X6_of (w_X6_of hl hM ((i : Nat) : Int) (4 + ((j : Nat) : Int)) (by omega) (by omega)) (as := [.int (iI ((i : Nat) : Int)), .int (iI (4 + ((j : Nat) : Int)))]) hM.1 rfl rfl rfl rfl (by decide) (by decide) (k8 rfl) ?_
              refine k_bipush 110 (pc1 := 74) dX6_yesShare_72 rfl (by decide) ?_
              refine k_icmp_ne (a := (oF f ((i : Nat) : Int) (4 + ((j : Nat) : Int)))) (b := 110) dX6_yesShare_74 rfl (tgt := 81) rfl (by omega) (by decide) (fun c74 : (oF f ((i : Nat) : Int) (4 + ((j : Nat) : Int))) ≠ 110 => ?_) (fun c74 : (oF f ((i : Nat) : Int) (4 + ((j : Nat) : Int))) = 110 => ?_)
              · skip
                refine k_iconst (pc1 := 82) dX6_yesShare_81 rfl ?_
                refine k_iadd (a := ((ksm (fun m => ksm (fun p => kB (oF f (m : Int) (4 + (p : Int)) = 121 ∨ oF f (m : Int) (4 + (p : Int)) = 110)) 6) i) + ksm (fun p => kB (oF f ((i : Nat) : Int) (4 + (p : Int)) = 121 ∨ oF f ((i : Nat) : Int) (4 + (p : Int)) = 110)) j)) (b := 0) (pc1 := 83) dX6_yesShare_82 rfl ?_
                refine k_istore_n (pc1 := 84) dX6_yesShare_83 rfl (by decide) (k_loc (L' := [some (.ref o), some (.int (iI (((ksm (fun m => ksm (fun p => kB (oF f (m : Int) (4 + (p : Int)) = 121)) 6) i) + ksm (fun p => kB (oF f ((i : Nat) : Int) (4 + (p : Int)) = 121)) j) + 0))), some (.int (iI (((ksm (fun m => ksm (fun p => kB (oF f (m : Int) (4 + (p : Int)) = 121 ∨ oF f (m : Int) (4 + (p : Int)) = 110)) 6) i) + ksm (fun p => kB (oF f ((i : Nat) : Int) (4 + (p : Int)) = 121 ∨ oF f ((i : Nat) : Int) (4 + (p : Int)) = 110)) j) + 0))), some (.int (iI ((i : Nat) : Int))), some (.int (iI ((j : Nat) : Int)))]) rfl ?_)
                refine k_iinc (a := ((j : Nat) : Int)) (pc1 := 87) dX6_yesShare_84 rfl rfl (by decide) (k_loc (L' := [some (.ref o), some (.int (iI (((ksm (fun m => ksm (fun p => kB (oF f (m : Int) (4 + (p : Int)) = 121)) 6) i) + ksm (fun p => kB (oF f ((i : Nat) : Int) (4 + (p : Int)) = 121)) j) + 0))), some (.int (iI (((ksm (fun m => ksm (fun p => kB (oF f (m : Int) (4 + (p : Int)) = 121 ∨ oF f (m : Int) (4 + (p : Int)) = 110)) 6) i) + ksm (fun p => kB (oF f ((i : Nat) : Int) (4 + (p : Int)) = 121 ∨ oF f ((i : Nat) : Int) (4 + (p : Int)) = 110)) j) + 0))), some (.int (iI ((i : Nat) : Int))), some (.int (iI (((j : Nat) : Int) + 1)))]) rfl ?_)
                refine k_goto dX6_yesShare_87 (tgt := 19) rfl ?_
                have e1 : ((ksm (fun m => ksm (fun p => kB (oF f (m : Int) (4 + (p : Int)) = 121)) 6) i) + ksm (fun p => kB (oF f ((i : Nat) : Int) (4 + (p : Int)) = 121)) (j + 1)) = (((ksm (fun m => ksm (fun p => kB (oF f (m : Int) (4 + (p : Int)) = 121)) 6) i) + ksm (fun p => kB (oF f ((i : Nat) : Int) (4 + (p : Int)) = 121)) j) + 0) := by
                  show _ + (ksm (fun p => kB (oF f ((i : Nat) : Int) (4 + (p : Int)) = 121)) j + kB _) = _
                  rw [kB_f (by omega)]
                  omega
                refine k_loc (L' := [some (.ref o), some (.int (iI ((ksm (fun m => ksm (fun p => kB (oF f (m : Int) (4 + (p : Int)) = 121)) 6) i) + ksm (fun p => kB (oF f ((i : Nat) : Int) (4 + (p : Int)) = 121)) (j + 1)))), some (.int (iI (((ksm (fun m => ksm (fun p => kB (oF f (m : Int) (4 + (p : Int)) = 121 ∨ oF f (m : Int) (4 + (p : Int)) = 110)) 6) i) + ksm (fun p => kB (oF f ((i : Nat) : Int) (4 + (p : Int)) = 121 ∨ oF f ((i : Nat) : Int) (4 + (p : Int)) = 110)) j) + 0))), some (.int (iI ((i : Nat) : Int))), some (.int (iI (((j : Nat) : Int) + 1)))]) (by rw [e1]) ?_
                have e2 : ((ksm (fun m => ksm (fun p => kB (oF f (m : Int) (4 + (p : Int)) = 121 ∨ oF f (m : Int) (4 + (p : Int)) = 110)) 6) i) + ksm (fun p => kB (oF f ((i : Nat) : Int) (4 + (p : Int)) = 121 ∨ oF f ((i : Nat) : Int) (4 + (p : Int)) = 110)) (j + 1)) = (((ksm (fun m => ksm (fun p => kB (oF f (m : Int) (4 + (p : Int)) = 121 ∨ oF f (m : Int) (4 + (p : Int)) = 110)) 6) i) + ksm (fun p => kB (oF f ((i : Nat) : Int) (4 + (p : Int)) = 121 ∨ oF f ((i : Nat) : Int) (4 + (p : Int)) = 110)) j) + 0) := by
                  show _ + (ksm (fun p => kB (oF f ((i : Nat) : Int) (4 + (p : Int)) = 121 ∨ oF f ((i : Nat) : Int) (4 + (p : Int)) = 110)) j + kB _) = _
                  rw [kB_f (by omega)]
                  omega
                refine k_loc (L' := [some (.ref o), some (.int (iI ((ksm (fun m => ksm (fun p => kB (oF f (m : Int) (4 + (p : Int)) = 121)) 6) i) + ksm (fun p => kB (oF f ((i : Nat) : Int) (4 + (p : Int)) = 121)) (j + 1)))), some (.int (iI ((ksm (fun m => ksm (fun p => kB (oF f (m : Int) (4 + (p : Int)) = 121 ∨ oF f (m : Int) (4 + (p : Int)) = 110)) 6) i) + ksm (fun p => kB (oF f ((i : Nat) : Int) (4 + (p : Int)) = 121 ∨ oF f ((i : Nat) : Int) (4 + (p : Int)) = 110)) (j + 1)))), some (.int (iI ((i : Nat) : Int))), some (.int (iI (((j : Nat) : Int) + 1)))]) (by rw [e2]) ?_
                exact ih19 _ (by omega) (j + 1) rfl (by omega)
              · skip
                refine k_iconst (pc1 := 78) dX6_yesShare_77 rfl ?_
                refine k_goto dX6_yesShare_78 (tgt := 82) rfl ?_
                refine k_iadd (a := ((ksm (fun m => ksm (fun p => kB (oF f (m : Int) (4 + (p : Int)) = 121 ∨ oF f (m : Int) (4 + (p : Int)) = 110)) 6) i) + ksm (fun p => kB (oF f ((i : Nat) : Int) (4 + (p : Int)) = 121 ∨ oF f ((i : Nat) : Int) (4 + (p : Int)) = 110)) j)) (b := 1) (pc1 := 83) dX6_yesShare_82 rfl ?_
                refine k_istore_n (pc1 := 84) dX6_yesShare_83 rfl (by decide) (k_loc (L' := [some (.ref o), some (.int (iI (((ksm (fun m => ksm (fun p => kB (oF f (m : Int) (4 + (p : Int)) = 121)) 6) i) + ksm (fun p => kB (oF f ((i : Nat) : Int) (4 + (p : Int)) = 121)) j) + 0))), some (.int (iI (((ksm (fun m => ksm (fun p => kB (oF f (m : Int) (4 + (p : Int)) = 121 ∨ oF f (m : Int) (4 + (p : Int)) = 110)) 6) i) + ksm (fun p => kB (oF f ((i : Nat) : Int) (4 + (p : Int)) = 121 ∨ oF f ((i : Nat) : Int) (4 + (p : Int)) = 110)) j) + 1))), some (.int (iI ((i : Nat) : Int))), some (.int (iI ((j : Nat) : Int)))]) rfl ?_)
                refine k_iinc (a := ((j : Nat) : Int)) (pc1 := 87) dX6_yesShare_84 rfl rfl (by decide) (k_loc (L' := [some (.ref o), some (.int (iI (((ksm (fun m => ksm (fun p => kB (oF f (m : Int) (4 + (p : Int)) = 121)) 6) i) + ksm (fun p => kB (oF f ((i : Nat) : Int) (4 + (p : Int)) = 121)) j) + 0))), some (.int (iI (((ksm (fun m => ksm (fun p => kB (oF f (m : Int) (4 + (p : Int)) = 121 ∨ oF f (m : Int) (4 + (p : Int)) = 110)) 6) i) + ksm (fun p => kB (oF f ((i : Nat) : Int) (4 + (p : Int)) = 121 ∨ oF f ((i : Nat) : Int) (4 + (p : Int)) = 110)) j) + 1))), some (.int (iI ((i : Nat) : Int))), some (.int (iI (((j : Nat) : Int) + 1)))]) rfl ?_)
                refine k_goto dX6_yesShare_87 (tgt := 19) rfl ?_
                have e1 : ((ksm (fun m => ksm (fun p => kB (oF f (m : Int) (4 + (p : Int)) = 121)) 6) i) + ksm (fun p => kB (oF f ((i : Nat) : Int) (4 + (p : Int)) = 121)) (j + 1)) = (((ksm (fun m => ksm (fun p => kB (oF f (m : Int) (4 + (p : Int)) = 121)) 6) i) + ksm (fun p => kB (oF f ((i : Nat) : Int) (4 + (p : Int)) = 121)) j) + 0) := by
                  show _ + (ksm (fun p => kB (oF f ((i : Nat) : Int) (4 + (p : Int)) = 121)) j + kB _) = _
                  rw [kB_f (by omega)]
                  omega
                refine k_loc (L' := [some (.ref o), some (.int (iI ((ksm (fun m => ksm (fun p => kB (oF f (m : Int) (4 + (p : Int)) = 121)) 6) i) + ksm (fun p => kB (oF f ((i : Nat) : Int) (4 + (p : Int)) = 121)) (j + 1)))), some (.int (iI (((ksm (fun m => ksm (fun p => kB (oF f (m : Int) (4 + (p : Int)) = 121 ∨ oF f (m : Int) (4 + (p : Int)) = 110)) 6) i) + ksm (fun p => kB (oF f ((i : Nat) : Int) (4 + (p : Int)) = 121 ∨ oF f ((i : Nat) : Int) (4 + (p : Int)) = 110)) j) + 1))), some (.int (iI ((i : Nat) : Int))), some (.int (iI (((j : Nat) : Int) + 1)))]) (by rw [e1]) ?_
                have e2 : ((ksm (fun m => ksm (fun p => kB (oF f (m : Int) (4 + (p : Int)) = 121 ∨ oF f (m : Int) (4 + (p : Int)) = 110)) 6) i) + ksm (fun p => kB (oF f ((i : Nat) : Int) (4 + (p : Int)) = 121 ∨ oF f ((i : Nat) : Int) (4 + (p : Int)) = 110)) (j + 1)) = (((ksm (fun m => ksm (fun p => kB (oF f (m : Int) (4 + (p : Int)) = 121 ∨ oF f (m : Int) (4 + (p : Int)) = 110)) 6) i) + ksm (fun p => kB (oF f ((i : Nat) : Int) (4 + (p : Int)) = 121 ∨ oF f ((i : Nat) : Int) (4 + (p : Int)) = 110)) j) + 1) := by
                  show _ + (ksm (fun p => kB (oF f ((i : Nat) : Int) (4 + (p : Int)) = 121 ∨ oF f ((i : Nat) : Int) (4 + (p : Int)) = 110)) j + kB _) = _
                  rw [kB_t (by omega)]
                  omega
                refine k_loc (L' := [some (.ref o), some (.int (iI ((ksm (fun m => ksm (fun p => kB (oF f (m : Int) (4 + (p : Int)) = 121)) 6) i) + ksm (fun p => kB (oF f ((i : Nat) : Int) (4 + (p : Int)) = 121)) (j + 1)))), some (.int (iI ((ksm (fun m => ksm (fun p => kB (oF f (m : Int) (4 + (p : Int)) = 121 ∨ oF f (m : Int) (4 + (p : Int)) = 110)) 6) i) + ksm (fun p => kB (oF f ((i : Nat) : Int) (4 + (p : Int)) = 121 ∨ oF f ((i : Nat) : Int) (4 + (p : Int)) = 110)) (j + 1)))), some (.int (iI ((i : Nat) : Int))), some (.int (iI (((j : Nat) : Int) + 1)))]) (by rw [e2]) ?_
                exact ih19 _ (by omega) (j + 1) rfl (by omega)
          · skip
            refine k_iconst (pc1 := 42) dX6_yesShare_41 rfl ?_
            refine k_goto dX6_yesShare_42 (tgt := 46) rfl ?_
            refine k_iadd (a := ((ksm (fun m => ksm (fun p => kB (oF f (m : Int) (4 + (p : Int)) = 121)) 6) i) + ksm (fun p => kB (oF f ((i : Nat) : Int) (4 + (p : Int)) = 121)) j)) (b := 1) (pc1 := 47) dX6_yesShare_46 rfl ?_
            refine k_istore_n (pc1 := 48) dX6_yesShare_47 rfl (by decide) (k_loc (L' := [some (.ref o), some (.int (iI (((ksm (fun m => ksm (fun p => kB (oF f (m : Int) (4 + (p : Int)) = 121)) 6) i) + ksm (fun p => kB (oF f ((i : Nat) : Int) (4 + (p : Int)) = 121)) j) + 1))), some (.int (iI ((ksm (fun m => ksm (fun p => kB (oF f (m : Int) (4 + (p : Int)) = 121 ∨ oF f (m : Int) (4 + (p : Int)) = 110)) 6) i) + ksm (fun p => kB (oF f ((i : Nat) : Int) (4 + (p : Int)) = 121 ∨ oF f ((i : Nat) : Int) (4 + (p : Int)) = 110)) j))), some (.int (iI ((i : Nat) : Int))), some (.int (iI ((j : Nat) : Int)))]) rfl ?_)
            refine k_iload_n (pc1 := 49) dX6_yesShare_48 rfl rfl ?_
            refine k_aload_n (pc1 := 50) dX6_yesShare_49 rfl rfl ?_
            refine k_iload_n (pc1 := 51) dX6_yesShare_50 rfl rfl ?_
            refine k_iconst (pc1 := 52) dX6_yesShare_51 rfl ?_
            refine k_iload (pc1 := 54) dX6_yesShare_52 rfl rfl ?_
            refine k_iadd (a := 4) (b := ((j : Nat) : Int)) (pc1 := 55) dX6_yesShare_54 rfl ?_
            refine k_callVP dX6_yesShare_55 rfl lk_RX6_37 o_X6_of (w_X6_of hl hM ((i : Nat) : Int) (4 + ((j : Nat) : Int)) (by omega) (by omega)) (as := [.int (iI ((i : Nat) : Int)), .int (iI (4 + ((j : Nat) : Int)))]) hM.1 rfl rfl rfl rfl (by decide) (by decide) (k8 rfl) ?_
            refine k_bipush 121 (pc1 := 60) dX6_yesShare_58 rfl (by decide) ?_
            refine k_icmp_eq (a := (oF f ((i : Nat) : Int) (4 + ((j : Nat) : Int)))) (b := 121) dX6_yesShare_60 rfl (tgt := 77) rfl (by omega) (by decide) (fun c60 : (oF f ((i : Nat) : Int) (4 + ((j : Nat) : Int))) = 121 => ?_) (fun c60 : (oF f ((i : Nat) : Int) (4 + ((j : Nat) : Int))) ≠ 121 => ?_)
            · skip
              refine k_iconst (pc1 := 78) dX6_yesShare_77 rfl ?_
              refine k_goto dX6_yesShare_78 (tgt := 82) rfl ?_
              refine k_iadd (a := ((ksm (fun m => ksm (fun p => kB (oF f (m : Int) (4 + (p : Int)) = 121 ∨ oF f (m : Int) (4 + (p : Int)) = 110)) 6) i) + ksm (fun p => kB (oF f ((i : Nat) : Int) (4 + (p : Int)) = 121 ∨ oF f ((i : Nat) : Int) (4 + (p : Int)) = 110)) j)) (b := 1) (pc1 := 83) dX6_yesShare_82 rfl ?_
              refine k_istore_n (pc1 := 84) dX6_yesShare_83 rfl (by decide) (k_loc (L' := [some (.ref o), some (.int (iI (((ksm (fun m => ksm (fun p => kB (oF f (m : Int) (4 + (p : Int)) = 121)) 6) i) + ksm (fun p => kB (oF f ((i : Nat) : Int) (4 + (p : Int)) = 121)) j) + 1))), some (.int (iI (((ksm (fun m => ksm (fun p => kB (oF f (m : Int) (4 + (p : Int)) = 121 ∨ oF f (m : Int) (4 + (p : Int)) = 110)) 6) i) + ksm (fun p => kB (oF f ((i : Nat) : Int) (4 + (p : Int)) = 121 ∨ oF f ((i : Nat) : Int) (4 + (p : Int)) = 110)) j) + 1))), some (.int (iI ((i : Nat) : Int))), some (.int (iI ((j : Nat) : Int)))]) rfl ?_)
              refine k_iinc (a := ((j : Nat) : Int)) (pc1 := 87) dX6_yesShare_84 rfl rfl (by decide) (k_loc (L' := [some (.ref o), some (.int (iI (((ksm (fun m => ksm (fun p => kB (oF f (m : Int) (4 + (p : Int)) = 121)) 6) i) + ksm (fun p => kB (oF f ((i : Nat) : Int) (4 + (p : Int)) = 121)) j) + 1))), some (.int (iI (((ksm (fun m => ksm (fun p => kB (oF f (m : Int) (4 + (p : Int)) = 121 ∨ oF f (m : Int) (4 + (p : Int)) = 110)) 6) i) + ksm (fun p => kB (oF f ((i : Nat) : Int) (4 + (p : Int)) = 121 ∨ oF f ((i : Nat) : Int) (4 + (p : Int)) = 110)) j) + 1))), some (.int (iI ((i : Nat) : Int))), some (.int (iI (((j : Nat) : Int) + 1)))]) rfl ?_)
              refine k_goto dX6_yesShare_87 (tgt := 19) rfl ?_
              have e1 : ((ksm (fun m => ksm (fun p => kB (oF f (m : Int) (4 + (p : Int)) = 121)) 6) i) + ksm (fun p => kB (oF f ((i : Nat) : Int) (4 + (p : Int)) = 121)) (j + 1)) = (((ksm (fun m => ksm (fun p => kB (oF f (m : Int) (4 + (p : Int)) = 121)) 6) i) + ksm (fun p => kB (oF f ((i : Nat) : Int) (4 + (p : Int)) = 121)) j) + 1) := by
                show _ + (ksm (fun p => kB (oF f ((i : Nat) : Int) (4 + (p : Int)) = 121)) j + kB _) = _
                rw [kB_t (by omega)]
                omega
              refine k_loc (L' := [some (.ref o), some (.int (iI ((ksm (fun m => ksm (fun p => kB (oF f (m : Int) (4 + (p : Int)) = 121)) 6) i) + ksm (fun p => kB (oF f ((i : Nat) : Int) (4 + (p : Int)) = 121)) (j + 1)))), some (.int (iI (((ksm (fun m => ksm (fun p => kB (oF f (m : Int) (4 + (p : Int)) = 121 ∨ oF f (m : Int) (4 + (p : Int)) = 110)) 6) i) + ksm (fun p => kB (oF f ((i : Nat) : Int) (4 + (p : Int)) = 121 ∨ oF f ((i : Nat) : Int) (4 + (p : Int)) = 110)) j) + 1))), some (.int (iI ((i : Nat) : Int))), some (.int (iI (((j : Nat) : Int) + 1)))]) (by rw [e1]) ?_
              have e2 : ((ksm (fun m => ksm (fun p => kB (oF f (m : Int) (4 + (p : Int)) = 121 ∨ oF f (m : Int) (4 + (p : Int)) = 110)) 6) i) + ksm (fun p => kB (oF f ((i : Nat) : Int) (4 + (p : Int)) = 121 ∨ oF f ((i : Nat) : Int) (4 + (p : Int)) = 110)) (j + 1)) = (((ksm (fun m => ksm (fun p => kB (oF f (m : Int) (4 + (p : Int)) = 121 ∨ oF f (m : Int) (4 + (p : Int)) = 110)) 6) i) + ksm (fun p => kB (oF f ((i : Nat) : Int) (4 + (p : Int)) = 121 ∨ oF f ((i : Nat) : Int) (4 + (p : Int)) = 110)) j) + 1) := by
                show _ + (ksm (fun p => kB (oF f ((i : Nat) : Int) (4 + (p : Int)) = 121 ∨ oF f ((i : Nat) : Int) (4 + (p : Int)) = 110)) j + kB _) = _
                rw [kB_t (by omega)]
                omega
              refine k_loc (L' := [some (.ref o), some (.int (iI ((ksm (fun m => ksm (fun p => kB (oF f (m : Int) (4 + (p : Int)) = 121)) 6) i) + ksm (fun p => kB (oF f ((i : Nat) : Int) (4 + (p : Int)) = 121)) (j + 1)))), some (.int (iI ((ksm (fun m => ksm (fun p => kB (oF f (m : Int) (4 + (p : Int)) = 121 ∨ oF f (m : Int) (4 + (p : Int)) = 110)) 6) i) + ksm (fun p => kB (oF f ((i : Nat) : Int) (4 + (p : Int)) = 121 ∨ oF f ((i : Nat) : Int) (4 + (p : Int)) = 110)) (j + 1)))), some (.int (iI ((i : Nat) : Int))), some (.int (iI (((j : Nat) : Int) + 1)))]) (by rw [e2]) ?_
              exact ih19 _ (by omega) (j + 1) rfl (by omega)
            · skip
              refine k_aload_n (pc1 := 64) dX6_yesShare_63 rfl rfl ?_
              refine k_iload_n (pc1 := 65) dX6_yesShare_64 rfl rfl ?_
              refine k_iconst (pc1 := 66) dX6_yesShare_65 rfl ?_
              refine k_iload (pc1 := 68) dX6_yesShare_66 rfl rfl ?_
              refine k_iadd (a := 4) (b := ((j : Nat) : Int)) (pc1 := 69) dX6_yesShare_68 rfl ?_
              refine k_callVP dX6_yesShare_69 rfl lk_RX6_37 o_X6_of (w_X6_of hl hM ((i : Nat) : Int) (4 + ((j : Nat) : Int)) (by omega) (by omega)) (as := [.int (iI ((i : Nat) : Int)), .int (iI (4 + ((j : Nat) : Int)))]) hM.1 rfl rfl rfl rfl (by decide) (by decide) (k8 rfl) ?_
              refine k_bipush 110 (pc1 := 74) dX6_yesShare_72 rfl (by decide) ?_
              refine k_icmp_ne (a := (oF f ((i : Nat) : Int) (4 + ((j : Nat) : Int)))) (b := 110) dX6_yesShare_74 rfl (tgt := 81) rfl (by omega) (by decide) (fun c74 : (oF f ((i : Nat) : Int) (4 + ((j : Nat) : Int))) ≠ 110 => ?_) (fun c74 : (oF f ((i : Nat) : Int) (4 + ((j : Nat) : Int))) = 110 => ?_)
              · skip
                refine k_iconst (pc1 := 82) dX6_yesShare_81 rfl ?_
                refine k_iadd (a := ((ksm (fun m => ksm (fun p => kB (oF f (m : Int) (4 + (p : Int)) = 121 ∨ oF f (m : Int) (4 + (p : Int)) = 110)) 6) i) + ksm (fun p => kB (oF f ((i : Nat) : Int) (4 + (p : Int)) = 121 ∨ oF f ((i : Nat) : Int) (4 + (p : Int)) = 110)) j)) (b := 0) (pc1 := 83) dX6_yesShare_82 rfl ?_
                refine k_istore_n (pc1 := 84) dX6_yesShare_83 rfl (by decide) (k_loc (L' := [some (.ref o), some (.int (iI (((ksm (fun m => ksm (fun p => kB (oF f (m : Int) (4 + (p : Int)) = 121)) 6) i) + ksm (fun p => kB (oF f ((i : Nat) : Int) (4 + (p : Int)) = 121)) j) + 1))), some (.int (iI (((ksm (fun m => ksm (fun p => kB (oF f (m : Int) (4 + (p : Int)) = 121 ∨ oF f (m : Int) (4 + (p : Int)) = 110)) 6) i) + ksm (fun p => kB (oF f ((i : Nat) : Int) (4 + (p : Int)) = 121 ∨ oF f ((i : Nat) : Int) (4 + (p : Int)) = 110)) j) + 0))), some (.int (iI ((i : Nat) : Int))), some (.int (iI ((j : Nat) : Int)))]) rfl ?_)
                refine k_iinc (a := ((j : Nat) : Int)) (pc1 := 87) dX6_yesShare_84 rfl rfl (by decide) (k_loc (L' := [some (.ref o), some (.int (iI (((ksm (fun m => ksm (fun p => kB (oF f (m : Int) (4 + (p : Int)) = 121)) 6) i) + ksm (fun p => kB (oF f ((i : Nat) : Int) (4 + (p : Int)) = 121)) j) + 1))), some (.int (iI (((ksm (fun m => ksm (fun p => kB (oF f (m : Int) (4 + (p : Int)) = 121 ∨ oF f (m : Int) (4 + (p : Int)) = 110)) 6) i) + ksm (fun p => kB (oF f ((i : Nat) : Int) (4 + (p : Int)) = 121 ∨ oF f ((i : Nat) : Int) (4 + (p : Int)) = 110)) j) + 0))), some (.int (iI ((i : Nat) : Int))), some (.int (iI (((j : Nat) : Int) + 1)))]) rfl ?_)
                refine k_goto dX6_yesShare_87 (tgt := 19) rfl ?_
                have e1 : ((ksm (fun m => ksm (fun p => kB (oF f (m : Int) (4 + (p : Int)) = 121)) 6) i) + ksm (fun p => kB (oF f ((i : Nat) : Int) (4 + (p : Int)) = 121)) (j + 1)) = (((ksm (fun m => ksm (fun p => kB (oF f (m : Int) (4 + (p : Int)) = 121)) 6) i) + ksm (fun p => kB (oF f ((i : Nat) : Int) (4 + (p : Int)) = 121)) j) + 1) := by
                  show _ + (ksm (fun p => kB (oF f ((i : Nat) : Int) (4 + (p : Int)) = 121)) j + kB _) = _
                  rw [kB_t (by omega)]
                  omega
                refine k_loc (L' := [some (.ref o), some (.int (iI ((ksm (fun m => ksm (fun p => kB (oF f (m : Int) (4 + (p : Int)) = 121)) 6) i) + ksm (fun p => kB (oF f ((i : Nat) : Int) (4 + (p : Int)) = 121)) (j + 1)))), some (.int (iI (((ksm (fun m => ksm (fun p => kB (oF f (m : Int) (4 + (p : Int)) = 121 ∨ oF f (m : Int) (4 + (p : Int)) = 110)) 6) i) + ksm (fun p => kB (oF f ((i : Nat) : Int) (4 + (p : Int)) = 121 ∨ oF f ((i : Nat) : Int) (4 + (p : Int)) = 110)) j) + 0))), some (.int (iI ((i : Nat) : Int))), some (.int (iI (((j : Nat) : Int) + 1)))]) (by rw [e1]) ?_
                have e2 : ((ksm (fun m => ksm (fun p => kB (oF f (m : Int) (4 + (p : Int)) = 121 ∨ oF f (m : Int) (4 + (p : Int)) = 110)) 6) i) + ksm (fun p => kB (oF f ((i : Nat) : Int) (4 + (p : Int)) = 121 ∨ oF f ((i : Nat) : Int) (4 + (p : Int)) = 110)) (j + 1)) = (((ksm (fun m => ksm (fun p => kB (oF f (m : Int) (4 + (p : Int)) = 121 ∨ oF f (m : Int) (4 + (p : Int)) = 110)) 6) i) + ksm (fun p => kB (oF f ((i : Nat) : Int) (4 + (p : Int)) = 121 ∨ oF f ((i : Nat) : Int) (4 + (p : Int)) = 110)) j) + 0) := by
                  show _ + (ksm (fun p => kB (oF f ((i : Nat) : Int) (4 + (p : Int)) = 121 ∨ oF f ((i : Nat) : Int) (4 + (p : Int)) = 110)) j + kB _) = _
                  rw [kB_f (by omega)]
                  omega
                refine k_loc (L' := [some (.ref o), some (.int (iI ((ksm (fun m => ksm (fun p => kB (oF f (m : Int) (4 + (p : Int)) = 121)) 6) i) + ksm (fun p => kB (oF f ((i : Nat) : Int) (4 + (p : Int)) = 121)) (j + 1)))), some (.int (iI ((ksm (fun m => ksm (fun p => kB (oF f (m : Int) (4 + (p : Int)) = 121 ∨ oF f (m : Int) (4 + (p : Int)) = 110)) 6) i) + ksm (fun p => kB (oF f ((i : Nat) : Int) (4 + (p : Int)) = 121 ∨ oF f ((i : Nat) : Int) (4 + (p : Int)) = 110)) (j + 1)))), some (.int (iI ((i : Nat) : Int))), some (.int (iI (((j : Nat) : Int) + 1)))]) (by rw [e2]) ?_
                exact ih19 _ (by omega) (j + 1) rfl (by omega)
              · skip
                refine k_iconst (pc1 := 78) dX6_yesShare_77 rfl ?_
                refine k_goto dX6_yesShare_78 (tgt := 82) rfl ?_
                refine k_iadd (a := ((ksm (fun m => ksm (fun p => kB (oF f (m : Int) (4 + (p : Int)) = 121 ∨ oF f (m : Int) (4 + (p : Int)) = 110)) 6) i) + ksm (fun p => kB (oF f ((i : Nat) : Int) (4 + (p : Int)) = 121 ∨ oF f ((i : Nat) : Int) (4 + (p : Int)) = 110)) j)) (b := 1) (pc1 := 83) dX6_yesShare_82 rfl ?_
                refine k_istore_n (pc1 := 84) dX6_yesShare_83 rfl (by decide) (k_loc (L' := [some (.ref o), some (.int (iI (((ksm (fun m => ksm (fun p => kB (oF f (m : Int) (4 + (p : Int)) = 121)) 6) i) + ksm (fun p => kB (oF f ((i : Nat) : Int) (4 + (p : Int)) = 121)) j) + 1))), some (.int (iI (((ksm (fun m => ksm (fun p => kB (oF f (m : Int) (4 + (p : Int)) = 121 ∨ oF f (m : Int) (4 + (p : Int)) = 110)) 6) i) + ksm (fun p => kB (oF f ((i : Nat) : Int) (4 + (p : Int)) = 121 ∨ oF f ((i : Nat) : Int) (4 + (p : Int)) = 110)) j) + 1))), some (.int (iI ((i : Nat) : Int))), some (.int (iI ((j : Nat) : Int)))]) rfl ?_)
                refine k_iinc (a := ((j : Nat) : Int)) (pc1 := 87) dX6_yesShare_84 rfl rfl (by decide) (k_loc (L' := [some (.ref o), some (.int (iI (((ksm (fun m => ksm (fun p => kB (oF f (m : Int) (4 + (p : Int)) = 121)) 6) i) + ksm (fun p => kB (oF f ((i : Nat) : Int) (4 + (p : Int)) = 121)) j) + 1))), some (.int (iI (((ksm (fun m => ksm (fun p => kB (oF f (m : Int) (4 + (p : Int)) = 121 ∨ oF f (m : Int) (4 + (p : Int)) = 110)) 6) i) + ksm (fun p => kB (oF f ((i : Nat) : Int) (4 + (p : Int)) = 121 ∨ oF f ((i : Nat) : Int) (4 + (p : Int)) = 110)) j) + 1))), some (.int (iI ((i : Nat) : Int))), some (.int (iI (((j : Nat) : Int) + 1)))]) rfl ?_)
                refine k_goto dX6_yesShare_87 (tgt := 19) rfl ?_
                have e1 : ((ksm (fun m => ksm (fun p => kB (oF f (m : Int) (4 + (p : Int)) = 121)) 6) i) + ksm (fun p => kB (oF f ((i : Nat) : Int) (4 + (p : Int)) = 121)) (j + 1)) = (((ksm (fun m => ksm (fun p => kB (oF f (m : Int) (4 + (p : Int)) = 121)) 6) i) + ksm (fun p => kB (oF f ((i : Nat) : Int) (4 + (p : Int)) = 121)) j) + 1) := by
                  show _ + (ksm (fun p => kB (oF f ((i : Nat) : Int) (4 + (p : Int)) = 121)) j + kB _) = _
                  rw [kB_t (by omega)]
                  omega
                refine k_loc (L' := [some (.ref o), some (.int (iI ((ksm (fun m => ksm (fun p => kB (oF f (m : Int) (4 + (p : Int)) = 121)) 6) i) + ksm (fun p => kB (oF f ((i : Nat) : Int) (4 + (p : Int)) = 121)) (j + 1)))), some (.int (iI (((ksm (fun m => ksm (fun p => kB (oF f (m : Int) (4 + (p : Int)) = 121 ∨ oF f (m : Int) (4 + (p : Int)) = 110)) 6) i) + ksm (fun p => kB (oF f ((i : Nat) : Int) (4 + (p : Int)) = 121 ∨ oF f ((i : Nat) : Int) (4 + (p : Int)) = 110)) j) + 1))), some (.int (iI ((i : Nat) : Int))), some (.int (iI (((j : Nat) : Int) + 1)))]) (by rw [e1]) ?_
                have e2 : ((ksm (fun m => ksm (fun p => kB (oF f (m : Int) (4 + (p : Int)) = 121 ∨ oF f (m : Int) (4 + (p : Int)) = 110)) 6) i) + ksm (fun p => kB (oF f ((i : Nat) : Int) (4 + (p : Int)) = 121 ∨ oF f ((i : Nat) : Int) (4 + (p : Int)) = 110)) (j + 1)) = (((ksm (fun m => ksm (fun p => kB (oF f (m : Int) (4 + (p : Int)) = 121 ∨ oF f (m : Int) (4 + (p : Int)) = 110)) 6) i) + ksm (fun p => kB (oF f ((i : Nat) : Int) (4 + (p : Int)) = 121 ∨ oF f ((i : Nat) : Int) (4 + (p : Int)) = 110)) j) + 1) := by
                  show _ + (ksm (fun p => kB (oF f ((i : Nat) : Int) (4 + (p : Int)) = 121 ∨ oF f ((i : Nat) : Int) (4 + (p : Int)) = 110)) j + kB _) = _
                  rw [kB_t (by omega)]
                  omega
                refine k_loc (L' := [some (.ref o), some (.int (iI ((ksm (fun m => ksm (fun p => kB (oF f (m : Int) (4 + (p : Int)) = 121)) 6) i) + ksm (fun p => kB (oF f ((i : Nat) : Int) (4 + (p : Int)) = 121)) (j + 1)))), some (.int (iI ((ksm (fun m => ksm (fun p => kB (oF f (m : Int) (4 + (p : Int)) = 121 ∨ oF f (m : Int) (4 + (p : Int)) = 110)) 6) i) + ksm (fun p => kB (oF f ((i : Nat) : Int) (4 + (p : Int)) = 121 ∨ oF f ((i : Nat) : Int) (4 + (p : Int)) = 110)) (j + 1)))), some (.int (iI ((i : Nat) : Int))), some (.int (iI (((j : Nat) : Int) + 1)))]) (by rw [e2]) ?_
                exact ih19 _ (by omega) (j + 1) rfl (by omega)
      refine k_loc (L' := [some (.ref o), some (.int (iI ((ksm (fun m => ksm (fun p => kB (oF f (m : Int) (4 + (p : Int)) = 121)) 6) i) + ksm (fun p => kB (oF f ((i : Nat) : Int) (4 + (p : Int)) = 121)) 0))), some (.int (iI (ksm (fun m => ksm (fun p => kB (oF f (m : Int) (4 + (p : Int)) = 121 ∨ oF f (m : Int) (4 + (p : Int)) = 110)) 6) i))), some (.int (iI ((i : Nat) : Int))), some (.int (iI 0))]) (by rw [show ksm (fun p => kB (oF f ((i : Nat) : Int) (4 + (p : Int)) = 121)) 0 = 0 from rfl, Int.add_zero]) ?_
      refine k_loc (L' := [some (.ref o), some (.int (iI ((ksm (fun m => ksm (fun p => kB (oF f (m : Int) (4 + (p : Int)) = 121)) 6) i) + ksm (fun p => kB (oF f ((i : Nat) : Int) (4 + (p : Int)) = 121)) 0))), some (.int (iI ((ksm (fun m => ksm (fun p => kB (oF f (m : Int) (4 + (p : Int)) = 121 ∨ oF f (m : Int) (4 + (p : Int)) = 110)) 6) i) + ksm (fun p => kB (oF f ((i : Nat) : Int) (4 + (p : Int)) = 121 ∨ oF f ((i : Nat) : Int) (4 + (p : Int)) = 110)) 0))), some (.int (iI ((i : Nat) : Int))), some (.int (iI 0))]) (by rw [show ksm (fun p => kB (oF f ((i : Nat) : Int) (4 + (p : Int)) = 121 ∨ oF f ((i : Nat) : Int) (4 + (p : Int)) = 110)) 0 = 0 from rfl, Int.add_zero]) ?_
      exact hloop19 _ 0 rfl (by omega)
  exact hloop6 _ 0 rfl (by omega)
