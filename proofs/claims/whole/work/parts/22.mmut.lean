/-! ===== the reference: its mutators, walked ===== -/
theorem w_X6_lays {l : Launch} {G : kG} {h : kAH} {o g r : Nat} {c wm wd : Int} {f : Nat → Int} (hl : l.stackTraces = false) (hM : kMd G h o g r c wm wd f) (m w v : Int) (h0 : 0 ≤ 20 + 40 * m + w) (h1 : 20 + 40 * m + w < 380) : kC l G m_X6_lays 1 0 0 [.ref o, .int (iI m), .int (iI w), .int (iI v)] h (kMq G o g r none c wm wd (lyF f m w v) h) kNo := by
  refine kC_of hl rfl rfl (Nat.le_of_ble_eq_true rfl) (L := [some (.ref o), some (.int (iI m)), some (.int (iI w)), some (.int (iI v))]) rfl ?_
  refine k_aload_n (pc1 := 1) dX6_lays_0 rfl rfl ?_
  refine k_get (pc1 := 4) dX6_lays_1 rfl fd_RX6_7 hM.1 (v := .ref g) rfl ?_
  refine k_bipush 20 (pc1 := 6) dX6_lays_4 rfl (by decide) ?_
  refine k_bipush 40 (pc1 := 8) dX6_lays_6 rfl (by decide) ?_
  refine k_iload_n (pc1 := 9) dX6_lays_8 rfl rfl ?_
  refine k_imul (a := 40) (b := m) (pc1 := 10) dX6_lays_9 rfl ?_
  refine k_iadd (a := 20) (b := (40 * m)) (pc1 := 11) dX6_lays_10 rfl ?_
  refine k_iload_n (pc1 := 12) dX6_lays_11 rfl rfl ?_
  refine k_iadd (a := (20 + (40 * m))) (b := w) (pc1 := 13) dX6_lays_12 rfl ?_
  refine k_iload_n (pc1 := 14) dX6_lays_13 rfl rfl ?_
  refine k_iastM (pc1 := 15) (i := ((20 + (40 * m)) + w)) (x := v) dX6_lays_14 rfl hM (by omega) (by omega) (fun h103 hM103 hX103 => ?_)
  have hF103 := kFm_tr (kFm_rf o g r h) hX103
  exact k_vret dX6_lays_15 rfl ⟨rfl, hM103, hF103⟩
theorem w_X6_dates {l : Launch} {G : kG} {h : kAH} {o g r : Nat} {c wm wd : Int} {f : Nat → Int} (hl : l.stackTraces = false) (hM : kMd G h o g r c wm wd f) (m dt k t rm : Int) (h0 : 0 ≤ m ∧ m < 9) (h1 : 0 ≤ dt ∧ dt < 6) : kC l G m_X6_dates 2 0 0 [.ref o, .int (iI m), .int (iI dt), .int (iI k), .int (iI t), .int (iI rm)] h (kMq G o g r none c wm wd (dtF f m dt k t rm) h) kNo := by
  refine kC_of hl rfl rfl (Nat.le_of_ble_eq_true rfl) (L := [some (.ref o), some (.int (iI m)), some (.int (iI dt)), some (.int (iI k)), some (.int (iI t)), some (.int (iI rm)), none]) rfl ?_
  refine k_bipush 10 (pc1 := 2) dX6_dates_0 rfl (by decide) ?_
  refine k_iconst (pc1 := 3) dX6_dates_2 rfl ?_
  refine k_iload_n (pc1 := 4) dX6_dates_3 rfl rfl ?_
  refine k_imul (a := 4) (b := dt) (pc1 := 5) dX6_dates_4 rfl ?_
  refine k_iadd (a := 10) (b := (4 * dt)) (pc1 := 6) dX6_dates_5 rfl ?_
  refine k_istore (pc1 := 8) dX6_dates_6 rfl (by decide) (k_loc (L' := [some (.ref o), some (.int (iI m)), some (.int (iI dt)), some (.int (iI k)), some (.int (iI t)), some (.int (iI rm)), some (.int (iI (10 + (4 * dt))))]) rfl ?_)
  refine k_aload_n (pc1 := 9) dX6_dates_8 rfl rfl ?_
  refine k_iload_n (pc1 := 10) dX6_dates_9 rfl rfl ?_
  refine k_iload (pc1 := 12) dX6_dates_10 rfl rfl ?_
  refine k_iconst (pc1 := 13) dX6_dates_12 rfl ?_
  refine k_iadd (a := (10 + (4 * dt))) (b := 0) (pc1 := 14) dX6_dates_13 rfl ?_
  refine k_iload_n (pc1 := 15) dX6_dates_14 rfl rfl ?_
  refine k_callVMn (c' := c) (wm' := wm) (wd' := wd) (f' := (lyF f m ((10 + (4 * dt)) + 0) k)) dX6_dates_15 rfl lk_RX6_70 o_X6_lays hM (w_X6_lays hl hM m ((10 + (4 * dt)) + 0) k (by omega) (by omega)) (as := [.int (iI m), .int (iI ((10 + (4 * dt)) + 0)), .int (iI k)]) rfl rfl rfl (by decide) (by decide) (k8 rfl) (fun h104 hM104 hX104 => ?_)
  have hF104 := kFm_tr (kFm_rf o g r h) hX104
  refine k_aload_n (pc1 := 19) dX6_dates_18 rfl rfl ?_
  refine k_iload_n (pc1 := 20) dX6_dates_19 rfl rfl ?_
  refine k_iload (pc1 := 22) dX6_dates_20 rfl rfl ?_
  refine k_iconst (pc1 := 23) dX6_dates_22 rfl ?_
  refine k_iadd (a := (10 + (4 * dt))) (b := 1) (pc1 := 24) dX6_dates_23 rfl ?_
  refine k_iload (pc1 := 26) dX6_dates_24 rfl rfl ?_
  refine k_callVMn (c' := c) (wm' := wm) (wd' := wd) (f' := (lyF (lyF f m ((10 + (4 * dt)) + 0) k) m ((10 + (4 * dt)) + 1) t)) dX6_dates_26 rfl lk_RX6_70 o_X6_lays hM104 (w_X6_lays hl hM104 m ((10 + (4 * dt)) + 1) t (by omega) (by omega)) (as := [.int (iI m), .int (iI ((10 + (4 * dt)) + 1)), .int (iI t)]) rfl rfl rfl (by decide) (by decide) (k8 rfl) (fun h105 hM105 hX105 => ?_)
  have hF105 := kFm_tr hF104 hX105
  refine k_aload_n (pc1 := 30) dX6_dates_29 rfl rfl ?_
  refine k_iload_n (pc1 := 31) dX6_dates_30 rfl rfl ?_
  refine k_iload (pc1 := 33) dX6_dates_31 rfl rfl ?_
  refine k_iconst (pc1 := 34) dX6_dates_33 rfl ?_
  refine k_iadd (a := (10 + (4 * dt))) (b := 2) (pc1 := 35) dX6_dates_34 rfl ?_
  refine k_iconst (pc1 := 36) dX6_dates_35 rfl ?_
  refine k_callVMn (c' := c) (wm' := wm) (wd' := wd) (f' := (lyF (lyF (lyF f m ((10 + (4 * dt)) + 0) k) m ((10 + (4 * dt)) + 1) t) m ((10 + (4 * dt)) + 2) 0)) dX6_dates_36 rfl lk_RX6_70 o_X6_lays hM105 (w_X6_lays hl hM105 m ((10 + (4 * dt)) + 2) 0 (by omega) (by omega)) (as := [.int (iI m), .int (iI ((10 + (4 * dt)) + 2)), .int (iI 0)]) rfl rfl rfl (by decide) (by decide) (k8 rfl) (fun h106 hM106 hX106 => ?_)
  have hF106 := kFm_tr hF105 hX106
  refine k_aload_n (pc1 := 40) dX6_dates_39 rfl rfl ?_
  refine k_iload_n (pc1 := 41) dX6_dates_40 rfl rfl ?_
  refine k_iload (pc1 := 43) dX6_dates_41 rfl rfl ?_
  refine k_iconst (pc1 := 44) dX6_dates_43 rfl ?_
  refine k_iadd (a := (10 + (4 * dt))) (b := 3) (pc1 := 45) dX6_dates_44 rfl ?_
  refine k_iload (pc1 := 47) dX6_dates_45 rfl rfl ?_
  refine k_callVMn (c' := c) (wm' := wm) (wd' := wd) (f' := (lyF (lyF (lyF (lyF f m ((10 + (4 * dt)) + 0) k) m ((10 + (4 * dt)) + 1) t) m ((10 + (4 * dt)) + 2) 0) m ((10 + (4 * dt)) + 3) rm)) dX6_dates_47 rfl lk_RX6_70 o_X6_lays hM106 (w_X6_lays hl hM106 m ((10 + (4 * dt)) + 3) rm (by omega) (by omega)) (as := [.int (iI m), .int (iI ((10 + (4 * dt)) + 3)), .int (iI rm)]) rfl rfl rfl (by decide) (by decide) (k8 rfl) (fun h107 hM107 hX107 => ?_)
  have hF107 := kFm_tr hF106 hX107
  exact k_vret dX6_dates_50 rfl ⟨rfl, hM107, hF107⟩
theorem w_X6_refuses {l : Launch} {G : kG} {h : kAH} {o g r : Nat} {c wm wd : Int} {f : Nat → Int} (hl : l.stackTraces = false) (hM : kMd G h o g r c wm wd f) (a b : Int) {p : Int} (hp : 0 < p ∧ p < 100) : kC l G m_X6_refuses 2 0 0 [.ref o, .int (iI a), .int (iI b), .int (iI p)] h (kMq G o g r (some (.int (iI 1))) p wm wd (rfF f a b) h) kNo := by
  refine kC_of hl rfl rfl (Nat.le_of_ble_eq_true rfl) (L := [some (.ref o), some (.int (iI a)), some (.int (iI b)), some (.int (iI p))]) rfl ?_
  refine k_aload_n (pc1 := 1) dX6_refuses_0 rfl rfl ?_
  refine k_get (pc1 := 4) dX6_refuses_1 rfl fd_RX6_7 hM.1 (v := .ref g) rfl ?_
  refine k_iconst (pc1 := 5) dX6_refuses_4 rfl ?_
  refine k_iload_n (pc1 := 6) dX6_refuses_5 rfl rfl ?_
  refine k_iastM (pc1 := 7) (i := 3) (x := a) dX6_refuses_6 rfl hM (by omega) (by omega) (fun h108 hM108 hX108 => ?_)
  have hF108 := kFm_tr (kFm_rf o g r h) hX108
  refine k_aload_n (pc1 := 8) dX6_refuses_7 rfl rfl ?_
  refine k_get (pc1 := 11) dX6_refuses_8 rfl fd_RX6_7 hM108.1 (v := .ref g) rfl ?_
  refine k_iconst (pc1 := 12) dX6_refuses_11 rfl ?_
  refine k_iload_n (pc1 := 13) dX6_refuses_12 rfl rfl ?_
  refine k_iastM (pc1 := 14) (i := 4) (x := b) dX6_refuses_13 rfl hM108 (by omega) (by omega) (fun h109 hM109 hX109 => ?_)
  have hF109 := kFm_tr hF108 hX109
  refine k_aload_n (pc1 := 15) dX6_refuses_14 rfl rfl ?_
  refine k_iload_n (pc1 := 16) dX6_refuses_15 rfl rfl ?_
  refine k_callVM (c' := p) (wm' := wm) (wd' := wd) (f' := (kiu (kiu f 3 a) 4 b)) (v := .int (iI 1)) dX6_refuses_16 rfl lk_RX6_34 o_X6_fails hM109 (w_X6_failsT hl hM109 hp) (as := [.int (iI p)]) rfl rfl rfl (by decide) (by decide) (k8 rfl) (fun h110 hM110 hX110 => ?_)
  have hF110 := kFm_tr hF109 hX110
  exact k_iret dX6_refuses_19 rfl rfl ⟨rfl, hM110, hF110⟩
theorem w_X6_isKeptOutT {l : Launch} {G : kG} {h : kAH} {o g r : Nat} {c wm wd : Int} {f : Nat → Int} (hl : l.stackTraces = false) (hM : kMd G h o g r c wm wd f) (hW : kWf f) {m p : Int} (hm : 0 ≤ m ∧ m < f 1) (hp : 0 ≤ p ∧ p < 6) (hc : 0 ≤ ko3 f m) : kC l G m_X6_isKeptOut 5 0 0 [.ref o, .int (iI m), .int (iI p)] h (kMq G o g r (some (.int (iI 1))) 4 wm wd (rfF f 3 (ko3 f m)) h) kNo := by
  have h8 := kWf_cnt hW
  have hmm := kWf_m hW hm.1 hm.2
  refine kC_of hl rfl rfl (Nat.le_of_ble_eq_true rfl) (L := [some (.ref o), some (.int (iI m)), some (.int (iI p)), none]) rfl ?_
  refine k_iconst (pc1 := 1) dX6_isKeptOut_0 rfl ?_
  refine k_istore_n (pc1 := 2) dX6_isKeptOut_1 rfl (by decide) (k_loc (L' := [some (.ref o), some (.int (iI m)), some (.int (iI p)), some (.int (iI 0))]) rfl ?_)
  have hloop2 : ∀ (zz : Nat) (i : Nat), zz = (oF f m 3 - ((i : Nat) : Int)).toNat → (((i : Nat) : Int) ≤ oF f m 3) → (∀ j : Nat, j < i → ¬ (fun d => onF f m (d : Int) ∧ f (5 + dF f m (d : Int) 3).toNat ≤ kpo (ppF f m) 6) j) → kW l G m_X6_isKeptOut 5 (kMq G o g r (some (.int (iI 1))) 4 wm wd (rfF f 3 (ko3 f m)) h) kNo 0 0 2 [some (.ref o), some (.int (iI m)), some (.int (iI p)), some (.int (iI ((i : Nat) : Int)))] [] h := by
    intro zz
    induction zz using Nat.strongRecOn with
    | ind zz ih2 =>
    intro i hr2 hi hJ
    refine k_iload_n (pc1 := 3) dX6_isKeptOut_2 rfl rfl ?_
    refine k_aload_n (pc1 := 4) dX6_isKeptOut_3 rfl rfl ?_
    refine k_iload_n (pc1 := 5) dX6_isKeptOut_4 rfl rfl ?_
    refine k_iconst (pc1 := 6) dX6_isKeptOut_5 rfl ?_
    refine k_callVP dX6_isKeptOut_6 rfl lk_RX6_37 o_X6_of (w_X6_of hl hM m 3 (by omega) (by omega)) (as := [.int (iI m), .int (iI 3)]) hM.1 rfl rfl rfl rfl (by decide) (by decide) (k8 rfl) ?_
    refine k_icmp_ge (a := ((i : Nat) : Int)) (b := (oF f m 3)) dX6_isKeptOut_9 rfl (tgt := 60) rfl (by omega) (by omega) (fun c9 : (oF f m 3) ≤ ((i : Nat) : Int) => ?_) (fun c9 : ((i : Nat) : Int) < (oF f m 3) => ?_)
    · skip
      have e3 : ko3 f m = -1 := kls_none (fun j hj => hJ j (by omega))
      refine k_iconst (pc1 := 61) dX6_isKeptOut_60 rfl ?_
      refine k_istore_n (pc1 := 62) dX6_isKeptOut_61 rfl (by decide) (k_loc (L' := [some (.ref o), some (.int (iI m)), some (.int (iI p)), some (.int (iI 0))]) rfl ?_)
      have hloop62 : ∀ (zz : Nat) (i : Nat), zz = (oF f m 3 - ((i : Nat) : Int)).toNat → (((i : Nat) : Int) ≤ oF f m 3) → (∀ j : Nat, j < i → ¬ (fun d => onF f m (d : Int) ∧ clF f m (d : Int) p) j) → kW l G m_X6_isKeptOut 5 (kMq G o g r (some (.int (iI 1))) 4 wm wd (rfF f 3 (ko3 f m)) h) kNo 0 0 62 [some (.ref o), some (.int (iI m)), some (.int (iI p)), some (.int (iI ((i : Nat) : Int)))] [] h := by
        intro zz
        induction zz using Nat.strongRecOn with
        | ind zz ih62 =>
        intro i hr62 hi hJ
        refine k_iload_n (pc1 := 63) dX6_isKeptOut_62 rfl rfl ?_
        refine k_aload_n (pc1 := 64) dX6_isKeptOut_63 rfl rfl ?_
        refine k_iload_n (pc1 := 65) dX6_isKeptOut_64 rfl rfl ?_
        refine k_iconst (pc1 := 66) dX6_isKeptOut_65 rfl ?_
        refine k_callVP dX6_isKeptOut_66 rfl lk_RX6_37 o_X6_of (w_X6_of hl hM m 3 (by omega) (by omega)) (as := [.int (iI m), .int (iI 3)]) hM.1 rfl rfl rfl rfl (by decide) (by decide) (k8 rfl) ?_
        refine k_icmp_ge (a := ((i : Nat) : Int)) (b := (oF f m 3)) dX6_isKeptOut_69 rfl (tgt := 105) rfl (by omega) (by omega) (fun c69 : (oF f m 3) ≤ ((i : Nat) : Int) => ?_) (fun c69 : ((i : Nat) : Int) < (oF f m 3) => ?_)
        · skip
          have e4 : ko4 f m p = -1 := kls_none (fun j hj => hJ j (by omega))
          refine k_iconst (pc1 := 106) dX6_isKeptOut_105 rfl ?_
          first | (exfalso; omega) | exact k_iret dX6_isKeptOut_106 rfl rfl (kMq_mk rfl rfl (by first | rfl | rw [e3] | rw [e4]) hM (kFm_rf o g r h))
        · skip
          have hi2 : inP f m ((i : Nat) : Int) := ⟨hm.1, hm.2, by omega, by omega⟩
          refine k_aload_n (pc1 := 73) dX6_isKeptOut_72 rfl rfl ?_
          refine k_iload_n (pc1 := 74) dX6_isKeptOut_73 rfl rfl ?_
          refine k_iload_n (pc1 := 75) dX6_isKeptOut_74 rfl rfl ?_
          refine k_callVP dX6_isKeptOut_75 rfl lk_RX6_49 o_X6_isOn (w_X6_isOn hl hM m ((i : Nat) : Int) hW ⟨by omega, by omega, by omega, by omega⟩) (as := [.int (iI m), .int (iI ((i : Nat) : Int))]) hM.1 rfl rfl rfl rfl (by decide) (by decide) (k8 rfl) ?_
          refine k_if_eq (a := kB (onF f m ((i : Nat) : Int))) dX6_isKeptOut_78 rfl (tgt := 99) rfl (kB_r _) (fun c78 : kB (onF f m ((i : Nat) : Int)) = 0 => ?_) (fun c78 : kB (onF f m ((i : Nat) : Int)) ≠ 0 => ?_)
          · replace c78 : ¬(onF f m ((i : Nat) : Int)) := kB_z.mp c78
            refine k_iinc (a := ((i : Nat) : Int)) (pc1 := 102) dX6_isKeptOut_99 rfl rfl (by decide) (k_loc (L' := [some (.ref o), some (.int (iI m)), some (.int (iI p)), some (.int (iI (((i : Nat) : Int) + 1)))]) rfl ?_)
            refine k_goto dX6_isKeptOut_102 (tgt := 62) rfl ?_
            exact ih62 _ (by omega) (i + 1) rfl (by omega) (fun j hj => if e : j = i then (fun z => by subst e; first | exact c78 z.1 | exact c88 z.2) else hJ j (by omega))
          · replace c78 : (onF f m ((i : Nat) : Int)) := kB_nz.mp c78
            refine k_aload_n (pc1 := 82) dX6_isKeptOut_81 rfl rfl ?_
            refine k_iload_n (pc1 := 83) dX6_isKeptOut_82 rfl rfl ?_
            refine k_iload_n (pc1 := 84) dX6_isKeptOut_83 rfl rfl ?_
            refine k_iload_n (pc1 := 85) dX6_isKeptOut_84 rfl rfl ?_
            refine k_callVP dX6_isKeptOut_85 rfl lk_RX6_102 o_X6_clashes (w_X6_clashes hl hM m ((i : Nat) : Int) p hW ⟨by omega, by omega, by omega, by omega⟩ ⟨by omega, by omega⟩) (as := [.int (iI m), .int (iI ((i : Nat) : Int)), .int (iI p)]) hM.1 rfl rfl rfl rfl (by decide) (by decide) (k8 rfl) ?_
            refine k_if_eq (a := kB (clF f m ((i : Nat) : Int) p)) dX6_isKeptOut_88 rfl (tgt := 99) rfl (kB_r _) (fun c88 : kB (clF f m ((i : Nat) : Int) p) = 0 => ?_) (fun c88 : kB (clF f m ((i : Nat) : Int) p) ≠ 0 => ?_)
            · replace c88 : ¬(clF f m ((i : Nat) : Int) p) := kB_z.mp c88
              refine k_iinc (a := ((i : Nat) : Int)) (pc1 := 102) dX6_isKeptOut_99 rfl rfl (by decide) (k_loc (L' := [some (.ref o), some (.int (iI m)), some (.int (iI p)), some (.int (iI (((i : Nat) : Int) + 1)))]) rfl ?_)
              refine k_goto dX6_isKeptOut_102 (tgt := 62) rfl ?_
              exact ih62 _ (by omega) (i + 1) rfl (by omega) (fun j hj => if e : j = i then (fun z => by subst e; first | exact c78 z.1 | exact c88 z.2) else hJ j (by omega))
            · replace c88 : (clF f m ((i : Nat) : Int) p) := kB_nz.mp c88
              have e4 : ko4 f m p = ((i : Nat) : Int) := kls_at (n := (oF f m 3).toNat) (by omega) ⟨c78, c88⟩ hJ
              refine k_aload_n (pc1 := 92) dX6_isKeptOut_91 rfl rfl ?_
              refine k_iconst (pc1 := 93) dX6_isKeptOut_92 rfl ?_
              refine k_iload_n (pc1 := 94) dX6_isKeptOut_93 rfl rfl ?_
              refine k_iconst (pc1 := 95) dX6_isKeptOut_94 rfl ?_
              refine k_callVM (c' := 4) (wm' := wm) (wd' := wd) (f' := (rfF f 4 ((i : Nat) : Int))) (v := .int (iI 1)) dX6_isKeptOut_95 rfl lk_RX6_86 o_X6_refuses hM (w_X6_refuses hl hM 4 ((i : Nat) : Int) (by decide)) (as := [.int (iI 4), .int (iI ((i : Nat) : Int)), .int (iI 4)]) rfl rfl rfl (by decide) (by decide) (k8 rfl) (fun h111 hM111 hX111 => ?_)
              have hF111 := kFm_tr (kFm_rf o g r h) hX111
              first | (exfalso; omega) | exact k_iret dX6_isKeptOut_98 rfl rfl (kMq_mk rfl rfl (by first | rfl | rw [e3] | rw [e4]) hM111 hF111)
      exact hloop62 _ 0 rfl (by omega) (fun j hj => absurd hj (by omega))
    · skip
      have hi2 : inP f m ((i : Nat) : Int) := ⟨hm.1, hm.2, by omega, by omega⟩
      have hdd := kWf_d hW hi2.1 hi2.2.1 hi2.2.2.1 hi2.2.2.2
      have hr5 := kWf_room hW (r := dF f m ((i : Nat) : Int) 3) (by omega) (by omega)
      have hkp := kpo_rng (ppF f m) 6
      refine k_aload_n (pc1 := 13) dX6_isKeptOut_12 rfl rfl ?_
      refine k_iload_n (pc1 := 14) dX6_isKeptOut_13 rfl rfl ?_
      refine k_iload_n (pc1 := 15) dX6_isKeptOut_14 rfl rfl ?_
      refine k_callVP dX6_isKeptOut_15 rfl lk_RX6_49 o_X6_isOn (w_X6_isOn hl hM m ((i : Nat) : Int) hW ⟨by omega, by omega, by omega, by omega⟩) (as := [.int (iI m), .int (iI ((i : Nat) : Int))]) hM.1 rfl rfl rfl rfl (by decide) (by decide) (k8 rfl) ?_
      refine k_if_eq (a := kB (onF f m ((i : Nat) : Int))) dX6_isKeptOut_18 rfl (tgt := 54) rfl (kB_r _) (fun c18 : kB (onF f m ((i : Nat) : Int)) = 0 => ?_) (fun c18 : kB (onF f m ((i : Nat) : Int)) ≠ 0 => ?_)
      · replace c18 : ¬(onF f m ((i : Nat) : Int)) := kB_z.mp c18
        refine k_iinc (a := ((i : Nat) : Int)) (pc1 := 57) dX6_isKeptOut_54 rfl rfl (by decide) (k_loc (L' := [some (.ref o), some (.int (iI m)), some (.int (iI p)), some (.int (iI (((i : Nat) : Int) + 1)))]) rfl ?_)
        refine k_goto dX6_isKeptOut_57 (tgt := 2) rfl ?_
        exact ih2 _ (by omega) (i + 1) rfl (by omega) (fun j hj => if e : j = i then (fun z => by subst e; first | exact c18 z.1 | (have := z.2; omega)) else hJ j (by omega))
      · replace c18 : (onF f m ((i : Nat) : Int)) := kB_nz.mp c18
        refine k_aload_n (pc1 := 22) dX6_isKeptOut_21 rfl rfl ?_
        refine k_get (pc1 := 25) dX6_isKeptOut_22 rfl fd_RX6_7 hM.1 (v := .ref g) rfl ?_
        refine k_iconst (pc1 := 26) dX6_isKeptOut_25 rfl ?_
        refine k_aload_n (pc1 := 27) dX6_isKeptOut_26 rfl rfl ?_
        refine k_iload_n (pc1 := 28) dX6_isKeptOut_27 rfl rfl ?_
        refine k_iload_n (pc1 := 29) dX6_isKeptOut_28 rfl rfl ?_
        refine k_iconst (pc1 := 30) dX6_isKeptOut_29 rfl ?_
        refine k_callVP dX6_isKeptOut_30 rfl lk_RX6_45 o_X6_date (w_X6_date hl hM m ((i : Nat) : Int) 3 (by omega) (by omega)) (as := [.int (iI m), .int (iI ((i : Nat) : Int)), .int (iI 3)]) hM.1 rfl rfl rfl rfl (by decide) (by decide) (k8 rfl) ?_
        refine k_iadd (a := 5) (b := (dF f m ((i : Nat) : Int) 3)) (pc1 := 34) dX6_isKeptOut_33 rfl ?_
        refine k_iald (i := (5 + (dF f m ((i : Nat) : Int) 3))) (f := f) (pc1 := 35) dX6_isKeptOut_34 rfl hM.2.1 (N := 380) (by omega) (by omega) (by decide) (k_val (v' := .int (iI (f (5 + (dF f m ((i : Nat) : Int) 3)).toNat))) rfl ?_)
        refine k_aload_n (pc1 := 36) dX6_isKeptOut_35 rfl rfl ?_
        refine k_iload_n (pc1 := 37) dX6_isKeptOut_36 rfl rfl ?_
        refine k_callVP dX6_isKeptOut_37 rfl lk_RX6_59 o_X6_people (w_X6_people hl hM m hW (by omega) (by omega)) (as := [.int (iI m)]) hM.1 rfl rfl rfl rfl (by decide) (by decide) (k8 rfl) ?_
        refine k_callSP dX6_isKeptOut_40 rfl lk_RX6_63 o_X6_many (w_X6_many hl (ppF f m) (by first | omega | exact kmk_lt _ _ | assumption)) (as := [.int (iI (((ppF f m) : Nat) : Int))]) rfl rfl rfl (by decide) (by decide) (k8 rfl) ?_
        refine k_icmp_gt (a := (f (5 + (dF f m ((i : Nat) : Int) 3)).toNat)) (b := (kpo (ppF f m) 6)) dX6_isKeptOut_43 rfl (tgt := 54) rfl (by omega) (by omega) (fun c43 : (kpo (ppF f m) 6) < (f (5 + (dF f m ((i : Nat) : Int) 3)).toNat) => ?_) (fun c43 : (f (5 + (dF f m ((i : Nat) : Int) 3)).toNat) ≤ (kpo (ppF f m) 6) => ?_)
        · skip
          refine k_iinc (a := ((i : Nat) : Int)) (pc1 := 57) dX6_isKeptOut_54 rfl rfl (by decide) (k_loc (L' := [some (.ref o), some (.int (iI m)), some (.int (iI p)), some (.int (iI (((i : Nat) : Int) + 1)))]) rfl ?_)
          refine k_goto dX6_isKeptOut_57 (tgt := 2) rfl ?_
          exact ih2 _ (by omega) (i + 1) rfl (by omega) (fun j hj => if e : j = i then (fun z => by subst e; first | exact c18 z.1 | (have := z.2; omega)) else hJ j (by omega))
        · skip
          have e3 : ko3 f m = ((i : Nat) : Int) := kls_at (n := (oF f m 3).toNat) (by omega) ⟨c18, c43⟩ hJ
          refine k_aload_n (pc1 := 47) dX6_isKeptOut_46 rfl rfl ?_
          refine k_iconst (pc1 := 48) dX6_isKeptOut_47 rfl ?_
          refine k_iload_n (pc1 := 49) dX6_isKeptOut_48 rfl rfl ?_
          refine k_iconst (pc1 := 50) dX6_isKeptOut_49 rfl ?_
          refine k_callVM (c' := 4) (wm' := wm) (wd' := wd) (f' := (rfF f 3 ((i : Nat) : Int))) (v := .int (iI 1)) dX6_isKeptOut_50 rfl lk_RX6_86 o_X6_refuses hM (w_X6_refuses hl hM 3 ((i : Nat) : Int) (by decide)) (as := [.int (iI 3), .int (iI ((i : Nat) : Int)), .int (iI 4)]) rfl rfl rfl (by decide) (by decide) (k8 rfl) (fun h112 hM112 hX112 => ?_)
          have hF112 := kFm_tr (kFm_rf o g r h) hX112
          first | (exfalso; omega) | exact k_iret dX6_isKeptOut_53 rfl rfl (kMq_mk rfl rfl (by first | rfl | rw [e3] | rw [e4]) hM112 hF112)
  exact hloop2 _ 0 rfl (by omega) (fun j hj => absurd hj (by omega))
theorem w_X6_isKeptOutU {l : Launch} {G : kG} {h : kAH} {o g r : Nat} {c wm wd : Int} {f : Nat → Int} (hl : l.stackTraces = false) (hM : kMd G h o g r c wm wd f) (hW : kWf f) {m p : Int} (hm : 0 ≤ m ∧ m < f 1) (hp : 0 ≤ p ∧ p < 6) (hc : ¬ 0 ≤ ko3 f m ∧ 0 ≤ ko4 f m p) : kC l G m_X6_isKeptOut 5 0 0 [.ref o, .int (iI m), .int (iI p)] h (kMq G o g r (some (.int (iI 1))) 4 wm wd (rfF f 4 (ko4 f m p)) h) kNo := by
  have h8 := kWf_cnt hW
  have hmm := kWf_m hW hm.1 hm.2
  refine kC_of hl rfl rfl (Nat.le_of_ble_eq_true rfl) (L := [some (.ref o), some (.int (iI m)), some (.int (iI p)), none]) rfl ?_
  refine k_iconst (pc1 := 1) dX6_isKeptOut_0 rfl ?_
  refine k_istore_n (pc1 := 2) dX6_isKeptOut_1 rfl (by decide) (k_loc (L' := [some (.ref o), some (.int (iI m)), some (.int (iI p)), some (.int (iI 0))]) rfl ?_)
  have hloop2 : ∀ (zz : Nat) (i : Nat), zz = (oF f m 3 - ((i : Nat) : Int)).toNat → (((i : Nat) : Int) ≤ oF f m 3) → (∀ j : Nat, j < i → ¬ (fun d => onF f m (d : Int) ∧ f (5 + dF f m (d : Int) 3).toNat ≤ kpo (ppF f m) 6) j) → kW l G m_X6_isKeptOut 5 (kMq G o g r (some (.int (iI 1))) 4 wm wd (rfF f 4 (ko4 f m p)) h) kNo 0 0 2 [some (.ref o), some (.int (iI m)), some (.int (iI p)), some (.int (iI ((i : Nat) : Int)))] [] h := by
    intro zz
    induction zz using Nat.strongRecOn with
    | ind zz ih2 =>
    intro i hr2 hi hJ
    refine k_iload_n (pc1 := 3) dX6_isKeptOut_2 rfl rfl ?_
    refine k_aload_n (pc1 := 4) dX6_isKeptOut_3 rfl rfl ?_
    refine k_iload_n (pc1 := 5) dX6_isKeptOut_4 rfl rfl ?_
    refine k_iconst (pc1 := 6) dX6_isKeptOut_5 rfl ?_
    refine k_callVP dX6_isKeptOut_6 rfl lk_RX6_37 o_X6_of (w_X6_of hl hM m 3 (by omega) (by omega)) (as := [.int (iI m), .int (iI 3)]) hM.1 rfl rfl rfl rfl (by decide) (by decide) (k8 rfl) ?_
    refine k_icmp_ge (a := ((i : Nat) : Int)) (b := (oF f m 3)) dX6_isKeptOut_9 rfl (tgt := 60) rfl (by omega) (by omega) (fun c9 : (oF f m 3) ≤ ((i : Nat) : Int) => ?_) (fun c9 : ((i : Nat) : Int) < (oF f m 3) => ?_)
    · skip
      have e3 : ko3 f m = -1 := kls_none (fun j hj => hJ j (by omega))
      refine k_iconst (pc1 := 61) dX6_isKeptOut_60 rfl ?_
      refine k_istore_n (pc1 := 62) dX6_isKeptOut_61 rfl (by decide) (k_loc (L' := [some (.ref o), some (.int (iI m)), some (.int (iI p)), some (.int (iI 0))]) rfl ?_)
      have hloop62 : ∀ (zz : Nat) (i : Nat), zz = (oF f m 3 - ((i : Nat) : Int)).toNat → (((i : Nat) : Int) ≤ oF f m 3) → (∀ j : Nat, j < i → ¬ (fun d => onF f m (d : Int) ∧ clF f m (d : Int) p) j) → kW l G m_X6_isKeptOut 5 (kMq G o g r (some (.int (iI 1))) 4 wm wd (rfF f 4 (ko4 f m p)) h) kNo 0 0 62 [some (.ref o), some (.int (iI m)), some (.int (iI p)), some (.int (iI ((i : Nat) : Int)))] [] h := by
        intro zz
        induction zz using Nat.strongRecOn with
        | ind zz ih62 =>
        intro i hr62 hi hJ
        refine k_iload_n (pc1 := 63) dX6_isKeptOut_62 rfl rfl ?_
        refine k_aload_n (pc1 := 64) dX6_isKeptOut_63 rfl rfl ?_
        refine k_iload_n (pc1 := 65) dX6_isKeptOut_64 rfl rfl ?_
        refine k_iconst (pc1 := 66) dX6_isKeptOut_65 rfl ?_
        refine k_callVP dX6_isKeptOut_66 rfl lk_RX6_37 o_X6_of (w_X6_of hl hM m 3 (by omega) (by omega)) (as := [.int (iI m), .int (iI 3)]) hM.1 rfl rfl rfl rfl (by decide) (by decide) (k8 rfl) ?_
        refine k_icmp_ge (a := ((i : Nat) : Int)) (b := (oF f m 3)) dX6_isKeptOut_69 rfl (tgt := 105) rfl (by omega) (by omega) (fun c69 : (oF f m 3) ≤ ((i : Nat) : Int) => ?_) (fun c69 : ((i : Nat) : Int) < (oF f m 3) => ?_)
        · skip
          have e4 : ko4 f m p = -1 := kls_none (fun j hj => hJ j (by omega))
          refine k_iconst (pc1 := 106) dX6_isKeptOut_105 rfl ?_
          first | (exfalso; omega) | exact k_iret dX6_isKeptOut_106 rfl rfl (kMq_mk rfl rfl (by first | rfl | rw [e3] | rw [e4]) hM (kFm_rf o g r h))
        · skip
          have hi2 : inP f m ((i : Nat) : Int) := ⟨hm.1, hm.2, by omega, by omega⟩
          refine k_aload_n (pc1 := 73) dX6_isKeptOut_72 rfl rfl ?_
          refine k_iload_n (pc1 := 74) dX6_isKeptOut_73 rfl rfl ?_
          refine k_iload_n (pc1 := 75) dX6_isKeptOut_74 rfl rfl ?_
          refine k_callVP dX6_isKeptOut_75 rfl lk_RX6_49 o_X6_isOn (w_X6_isOn hl hM m ((i : Nat) : Int) hW ⟨by omega, by omega, by omega, by omega⟩) (as := [.int (iI m), .int (iI ((i : Nat) : Int))]) hM.1 rfl rfl rfl rfl (by decide) (by decide) (k8 rfl) ?_
          refine k_if_eq (a := kB (onF f m ((i : Nat) : Int))) dX6_isKeptOut_78 rfl (tgt := 99) rfl (kB_r _) (fun c78 : kB (onF f m ((i : Nat) : Int)) = 0 => ?_) (fun c78 : kB (onF f m ((i : Nat) : Int)) ≠ 0 => ?_)
          · replace c78 : ¬(onF f m ((i : Nat) : Int)) := kB_z.mp c78
            refine k_iinc (a := ((i : Nat) : Int)) (pc1 := 102) dX6_isKeptOut_99 rfl rfl (by decide) (k_loc (L' := [some (.ref o), some (.int (iI m)), some (.int (iI p)), some (.int (iI (((i : Nat) : Int) + 1)))]) rfl ?_)
            refine k_goto dX6_isKeptOut_102 (tgt := 62) rfl ?_
            exact ih62 _ (by omega) (i + 1) rfl (by omega) (fun j hj => if e : j = i then (fun z => by subst e; first | exact c78 z.1 | exact c88 z.2) else hJ j (by omega))
          · replace c78 : (onF f m ((i : Nat) : Int)) := kB_nz.mp c78
            refine k_aload_n (pc1 := 82) dX6_isKeptOut_81 rfl rfl ?_
            refine k_iload_n (pc1 := 83) dX6_isKeptOut_82 rfl rfl ?_
            refine k_iload_n (pc1 := 84) dX6_isKeptOut_83 rfl rfl ?_
            refine k_iload_n (pc1 := 85) dX6_isKeptOut_84 rfl rfl ?_
            refine k_callVP dX6_isKeptOut_85 rfl lk_RX6_102 o_X6_clashes (w_X6_clashes hl hM m ((i : Nat) : Int) p hW ⟨by omega, by omega, by omega, by omega⟩ ⟨by omega, by omega⟩) (as := [.int (iI m), .int (iI ((i : Nat) : Int)), .int (iI p)]) hM.1 rfl rfl rfl rfl (by decide) (by decide) (k8 rfl) ?_
            refine k_if_eq (a := kB (clF f m ((i : Nat) : Int) p)) dX6_isKeptOut_88 rfl (tgt := 99) rfl (kB_r _) (fun c88 : kB (clF f m ((i : Nat) : Int) p) = 0 => ?_) (fun c88 : kB (clF f m ((i : Nat) : Int) p) ≠ 0 => ?_)
            · replace c88 : ¬(clF f m ((i : Nat) : Int) p) := kB_z.mp c88
              refine k_iinc (a := ((i : Nat) : Int)) (pc1 := 102) dX6_isKeptOut_99 rfl rfl (by decide) (k_loc (L' := [some (.ref o), some (.int (iI m)), some (.int (iI p)), some (.int (iI (((i : Nat) : Int) + 1)))]) rfl ?_)
              refine k_goto dX6_isKeptOut_102 (tgt := 62) rfl ?_
              exact ih62 _ (by omega) (i + 1) rfl (by omega) (fun j hj => if e : j = i then (fun z => by subst e; first | exact c78 z.1 | exact c88 z.2) else hJ j (by omega))
            · replace c88 : (clF f m ((i : Nat) : Int) p) := kB_nz.mp c88
              have e4 : ko4 f m p = ((i : Nat) : Int) := kls_at (n := (oF f m 3).toNat) (by omega) ⟨c78, c88⟩ hJ
              refine k_aload_n (pc1 := 92) dX6_isKeptOut_91 rfl rfl ?_
              refine k_iconst (pc1 := 93) dX6_isKeptOut_92 rfl ?_
              refine k_iload_n (pc1 := 94) dX6_isKeptOut_93 rfl rfl ?_
              refine k_iconst (pc1 := 95) dX6_isKeptOut_94 rfl ?_
              refine k_callVM (c' := 4) (wm' := wm) (wd' := wd) (f' := (rfF f 4 ((i : Nat) : Int))) (v := .int (iI 1)) dX6_isKeptOut_95 rfl lk_RX6_86 o_X6_refuses hM (w_X6_refuses hl hM 4 ((i : Nat) : Int) (by decide)) (as := [.int (iI 4), .int (iI ((i : Nat) : Int)), .int (iI 4)]) rfl rfl rfl (by decide) (by decide) (k8 rfl) (fun h113 hM113 hX113 => ?_)
              have hF113 := kFm_tr (kFm_rf o g r h) hX113
              first | (exfalso; omega) | exact k_iret dX6_isKeptOut_98 rfl rfl (kMq_mk rfl rfl (by first | rfl | rw [e3] | rw [e4]) hM113 hF113)
      exact hloop62 _ 0 rfl (by omega) (fun j hj => absurd hj (by omega))
    · skip
      have hi2 : inP f m ((i : Nat) : Int) := ⟨hm.1, hm.2, by omega, by omega⟩
      have hdd := kWf_d hW hi2.1 hi2.2.1 hi2.2.2.1 hi2.2.2.2
      have hr5 := kWf_room hW (r := dF f m ((i : Nat) : Int) 3) (by omega) (by omega)
      have hkp := kpo_rng (ppF f m) 6
      refine k_aload_n (pc1 := 13) dX6_isKeptOut_12 rfl rfl ?_
      refine k_iload_n (pc1 := 14) dX6_isKeptOut_13 rfl rfl ?_
      refine k_iload_n (pc1 := 15) dX6_isKeptOut_14 rfl rfl ?_
      refine k_callVP dX6_isKeptOut_15 rfl lk_RX6_49 o_X6_isOn (w_X6_isOn hl hM m ((i : Nat) : Int) hW ⟨by omega, by omega, by omega, by omega⟩) (as := [.int (iI m), .int (iI ((i : Nat) : Int))]) hM.1 rfl rfl rfl rfl (by decide) (by decide) (k8 rfl) ?_
      refine k_if_eq (a := kB (onF f m ((i : Nat) : Int))) dX6_isKeptOut_18 rfl (tgt := 54) rfl (kB_r _) (fun c18 : kB (onF f m ((i : Nat) : Int)) = 0 => ?_) (fun c18 : kB (onF f m ((i : Nat) : Int)) ≠ 0 => ?_)
      · replace c18 : ¬(onF f m ((i : Nat) : Int)) := kB_z.mp c18
        refine k_iinc (a := ((i : Nat) : Int)) (pc1 := 57) dX6_isKeptOut_54 rfl rfl (by decide) (k_loc (L' := [some (.ref o), some (.int (iI m)), some (.int (iI p)), some (.int (iI (((i : Nat) : Int) + 1)))]) rfl ?_)
        refine k_goto dX6_isKeptOut_57 (tgt := 2) rfl ?_
        exact ih2 _ (by omega) (i + 1) rfl (by omega) (fun j hj => if e : j = i then (fun z => by subst e; first | exact c18 z.1 | (have := z.2; omega)) else hJ j (by omega))
      · replace c18 : (onF f m ((i : Nat) : Int)) := kB_nz.mp c18
        refine k_aload_n (pc1 := 22) dX6_isKeptOut_21 rfl rfl ?_
        refine k_get (pc1 := 25) dX6_isKeptOut_22 rfl fd_RX6_7 hM.1 (v := .ref g) rfl ?_
        refine k_iconst (pc1 := 26) dX6_isKeptOut_25 rfl ?_
        refine k_aload_n (pc1 := 27) dX6_isKeptOut_26 rfl rfl ?_
        refine k_iload_n (pc1 := 28) dX6_isKeptOut_27 rfl rfl ?_
        refine k_iload_n (pc1 := 29) dX6_isKeptOut_28 rfl rfl ?_
        refine k_iconst (pc1 := 30) dX6_isKeptOut_29 rfl ?_
        refine k_callVP dX6_isKeptOut_30 rfl lk_RX6_45 o_X6_date (w_X6_date hl hM m ((i : Nat) : Int) 3 (by omega) (by omega)) (as := [.int (iI m), .int (iI ((i : Nat) : Int)), .int (iI 3)]) hM.1 rfl rfl rfl rfl (by decide) (by decide) (k8 rfl) ?_
        refine k_iadd (a := 5) (b := (dF f m ((i : Nat) : Int) 3)) (pc1 := 34) dX6_isKeptOut_33 rfl ?_
        refine k_iald (i := (5 + (dF f m ((i : Nat) : Int) 3))) (f := f) (pc1 := 35) dX6_isKeptOut_34 rfl hM.2.1 (N := 380) (by omega) (by omega) (by decide) (k_val (v' := .int (iI (f (5 + (dF f m ((i : Nat) : Int) 3)).toNat))) rfl ?_)
        refine k_aload_n (pc1 := 36) dX6_isKeptOut_35 rfl rfl ?_
        refine k_iload_n (pc1 := 37) dX6_isKeptOut_36 rfl rfl ?_
        refine k_callVP dX6_isKeptOut_37 rfl lk_RX6_59 o_X6_people (w_X6_people hl hM m hW (by omega) (by omega)) (as := [.int (iI m)]) hM.1 rfl rfl rfl rfl (by decide) (by decide) (k8 rfl) ?_
        refine k_callSP dX6_isKeptOut_40 rfl lk_RX6_63 o_X6_many (w_X6_many hl (ppF f m) (by first | omega | exact kmk_lt _ _ | assumption)) (as := [.int (iI (((ppF f m) : Nat) : Int))]) rfl rfl rfl (by decide) (by decide) (k8 rfl) ?_
        refine k_icmp_gt (a := (f (5 + (dF f m ((i : Nat) : Int) 3)).toNat)) (b := (kpo (ppF f m) 6)) dX6_isKeptOut_43 rfl (tgt := 54) rfl (by omega) (by omega) (fun c43 : (kpo (ppF f m) 6) < (f (5 + (dF f m ((i : Nat) : Int) 3)).toNat) => ?_) (fun c43 : (f (5 + (dF f m ((i : Nat) : Int) 3)).toNat) ≤ (kpo (ppF f m) 6) => ?_)
        · skip
          refine k_iinc (a := ((i : Nat) : Int)) (pc1 := 57) dX6_isKeptOut_54 rfl rfl (by decide) (k_loc (L' := [some (.ref o), some (.int (iI m)), some (.int (iI p)), some (.int (iI (((i : Nat) : Int) + 1)))]) rfl ?_)
          refine k_goto dX6_isKeptOut_57 (tgt := 2) rfl ?_
          exact ih2 _ (by omega) (i + 1) rfl (by omega) (fun j hj => if e : j = i then (fun z => by subst e; first | exact c18 z.1 | (have := z.2; omega)) else hJ j (by omega))
        · skip
          have e3 : ko3 f m = ((i : Nat) : Int) := kls_at (n := (oF f m 3).toNat) (by omega) ⟨c18, c43⟩ hJ
          refine k_aload_n (pc1 := 47) dX6_isKeptOut_46 rfl rfl ?_
          refine k_iconst (pc1 := 48) dX6_isKeptOut_47 rfl ?_
          refine k_iload_n (pc1 := 49) dX6_isKeptOut_48 rfl rfl ?_
          refine k_iconst (pc1 := 50) dX6_isKeptOut_49 rfl ?_
          refine k_callVM (c' := 4) (wm' := wm) (wd' := wd) (f' := (rfF f 3 ((i : Nat) : Int))) (v := .int (iI 1)) dX6_isKeptOut_50 rfl lk_RX6_86 o_X6_refuses hM (w_X6_refuses hl hM 3 ((i : Nat) : Int) (by decide)) (as := [.int (iI 3), .int (iI ((i : Nat) : Int)), .int (iI 4)]) rfl rfl rfl (by decide) (by decide) (k8 rfl) (fun h114 hM114 hX114 => ?_)
          have hF114 := kFm_tr (kFm_rf o g r h) hX114
          first | (exfalso; omega) | exact k_iret dX6_isKeptOut_53 rfl rfl (kMq_mk rfl rfl (by first | rfl | rw [e3] | rw [e4]) hM114 hF114)
  exact hloop2 _ 0 rfl (by omega) (fun j hj => absurd hj (by omega))
theorem w_X6_isKeptOutF {l : Launch} {G : kG} {h : kAH} {o g r : Nat} {c wm wd : Int} {f : Nat → Int} (hl : l.stackTraces = false) (hM : kMd G h o g r c wm wd f) (hW : kWf f) {m p : Int} (hm : 0 ≤ m ∧ m < f 1) (hp : 0 ≤ p ∧ p < 6) (hc : ¬ 0 ≤ ko3 f m ∧ ¬ 0 ≤ ko4 f m p) : kC l G m_X6_isKeptOut 5 0 0 [.ref o, .int (iI m), .int (iI p)] h (kMq G o g r (some (.int (iI 0))) c wm wd f h) kNo := by
  have h8 := kWf_cnt hW
  have hmm := kWf_m hW hm.1 hm.2
  refine kC_of hl rfl rfl (Nat.le_of_ble_eq_true rfl) (L := [some (.ref o), some (.int (iI m)), some (.int (iI p)), none]) rfl ?_
  refine k_iconst (pc1 := 1) dX6_isKeptOut_0 rfl ?_
  refine k_istore_n (pc1 := 2) dX6_isKeptOut_1 rfl (by decide) (k_loc (L' := [some (.ref o), some (.int (iI m)), some (.int (iI p)), some (.int (iI 0))]) rfl ?_)
  have hloop2 : ∀ (zz : Nat) (i : Nat), zz = (oF f m 3 - ((i : Nat) : Int)).toNat → (((i : Nat) : Int) ≤ oF f m 3) → (∀ j : Nat, j < i → ¬ (fun d => onF f m (d : Int) ∧ f (5 + dF f m (d : Int) 3).toNat ≤ kpo (ppF f m) 6) j) → kW l G m_X6_isKeptOut 5 (kMq G o g r (some (.int (iI 0))) c wm wd f h) kNo 0 0 2 [some (.ref o), some (.int (iI m)), some (.int (iI p)), some (.int (iI ((i : Nat) : Int)))] [] h := by
    intro zz
    induction zz using Nat.strongRecOn with
    | ind zz ih2 =>
    intro i hr2 hi hJ
    refine k_iload_n (pc1 := 3) dX6_isKeptOut_2 rfl rfl ?_
    refine k_aload_n (pc1 := 4) dX6_isKeptOut_3 rfl rfl ?_
    refine k_iload_n (pc1 := 5) dX6_isKeptOut_4 rfl rfl ?_
    refine k_iconst (pc1 := 6) dX6_isKeptOut_5 rfl ?_
    refine k_callVP dX6_isKeptOut_6 rfl lk_RX6_37 o_X6_of (w_X6_of hl hM m 3 (by omega) (by omega)) (as := [.int (iI m), .int (iI 3)]) hM.1 rfl rfl rfl rfl (by decide) (by decide) (k8 rfl) ?_
    refine k_icmp_ge (a := ((i : Nat) : Int)) (b := (oF f m 3)) dX6_isKeptOut_9 rfl (tgt := 60) rfl (by omega) (by omega) (fun c9 : (oF f m 3) ≤ ((i : Nat) : Int) => ?_) (fun c9 : ((i : Nat) : Int) < (oF f m 3) => ?_)
    · skip
      have e3 : ko3 f m = -1 := kls_none (fun j hj => hJ j (by omega))
      refine k_iconst (pc1 := 61) dX6_isKeptOut_60 rfl ?_
      refine k_istore_n (pc1 := 62) dX6_isKeptOut_61 rfl (by decide) (k_loc (L' := [some (.ref o), some (.int (iI m)), some (.int (iI p)), some (.int (iI 0))]) rfl ?_)
      have hloop62 : ∀ (zz : Nat) (i : Nat), zz = (oF f m 3 - ((i : Nat) : Int)).toNat → (((i : Nat) : Int) ≤ oF f m 3) → (∀ j : Nat, j < i → ¬ (fun d => onF f m (d : Int) ∧ clF f m (d : Int) p) j) → kW l G m_X6_isKeptOut 5 (kMq G o g r (some (.int (iI 0))) c wm wd f h) kNo 0 0 62 [some (.ref o), some (.int (iI m)), some (.int (iI p)), some (.int (iI ((i : Nat) : Int)))] [] h := by
        intro zz
        induction zz using Nat.strongRecOn with
        | ind zz ih62 =>
        intro i hr62 hi hJ
        refine k_iload_n (pc1 := 63) dX6_isKeptOut_62 rfl rfl ?_
        refine k_aload_n (pc1 := 64) dX6_isKeptOut_63 rfl rfl ?_
        refine k_iload_n (pc1 := 65) dX6_isKeptOut_64 rfl rfl ?_
        refine k_iconst (pc1 := 66) dX6_isKeptOut_65 rfl ?_
        refine k_callVP dX6_isKeptOut_66 rfl lk_RX6_37 o_X6_of (w_X6_of hl hM m 3 (by omega) (by omega)) (as := [.int (iI m), .int (iI 3)]) hM.1 rfl rfl rfl rfl (by decide) (by decide) (k8 rfl) ?_
        refine k_icmp_ge (a := ((i : Nat) : Int)) (b := (oF f m 3)) dX6_isKeptOut_69 rfl (tgt := 105) rfl (by omega) (by omega) (fun c69 : (oF f m 3) ≤ ((i : Nat) : Int) => ?_) (fun c69 : ((i : Nat) : Int) < (oF f m 3) => ?_)
        · skip
          have e4 : ko4 f m p = -1 := kls_none (fun j hj => hJ j (by omega))
          refine k_iconst (pc1 := 106) dX6_isKeptOut_105 rfl ?_
          first | (exfalso; omega) | exact k_iret dX6_isKeptOut_106 rfl rfl (kMq_mk rfl rfl (by first | rfl | rw [e3] | rw [e4]) hM (kFm_rf o g r h))
        · skip
          have hi2 : inP f m ((i : Nat) : Int) := ⟨hm.1, hm.2, by omega, by omega⟩
          refine k_aload_n (pc1 := 73) dX6_isKeptOut_72 rfl rfl ?_
          refine k_iload_n (pc1 := 74) dX6_isKeptOut_73 rfl rfl ?_
          refine k_iload_n (pc1 := 75) dX6_isKeptOut_74 rfl rfl ?_
          refine k_callVP dX6_isKeptOut_75 rfl lk_RX6_49 o_X6_isOn (w_X6_isOn hl hM m ((i : Nat) : Int) hW ⟨by omega, by omega, by omega, by omega⟩) (as := [.int (iI m), .int (iI ((i : Nat) : Int))]) hM.1 rfl rfl rfl rfl (by decide) (by decide) (k8 rfl) ?_
          refine k_if_eq (a := kB (onF f m ((i : Nat) : Int))) dX6_isKeptOut_78 rfl (tgt := 99) rfl (kB_r _) (fun c78 : kB (onF f m ((i : Nat) : Int)) = 0 => ?_) (fun c78 : kB (onF f m ((i : Nat) : Int)) ≠ 0 => ?_)
          · replace c78 : ¬(onF f m ((i : Nat) : Int)) := kB_z.mp c78
            refine k_iinc (a := ((i : Nat) : Int)) (pc1 := 102) dX6_isKeptOut_99 rfl rfl (by decide) (k_loc (L' := [some (.ref o), some (.int (iI m)), some (.int (iI p)), some (.int (iI (((i : Nat) : Int) + 1)))]) rfl ?_)
            refine k_goto dX6_isKeptOut_102 (tgt := 62) rfl ?_
            exact ih62 _ (by omega) (i + 1) rfl (by omega) (fun j hj => if e : j = i then (fun z => by subst e; first | exact c78 z.1 | exact c88 z.2) else hJ j (by omega))
          · replace c78 : (onF f m ((i : Nat) : Int)) := kB_nz.mp c78
            refine k_aload_n (pc1 := 82) dX6_isKeptOut_81 rfl rfl ?_
            refine k_iload_n (pc1 := 83) dX6_isKeptOut_82 rfl rfl ?_
            refine k_iload_n (pc1 := 84) dX6_isKeptOut_83 rfl rfl ?_
            refine k_iload_n (pc1 := 85) dX6_isKeptOut_84 rfl rfl ?_
            refine k_callVP dX6_isKeptOut_85 rfl lk_RX6_102 o_X6_clashes (w_X6_clashes hl hM m ((i : Nat) : Int) p hW ⟨by omega, by omega, by omega, by omega⟩ ⟨by omega, by omega⟩) (as := [.int (iI m), .int (iI ((i : Nat) : Int)), .int (iI p)]) hM.1 rfl rfl rfl rfl (by decide) (by decide) (k8 rfl) ?_
            refine k_if_eq (a := kB (clF f m ((i : Nat) : Int) p)) dX6_isKeptOut_88 rfl (tgt := 99) rfl (kB_r _) (fun c88 : kB (clF f m ((i : Nat) : Int) p) = 0 => ?_) (fun c88 : kB (clF f m ((i : Nat) : Int) p) ≠ 0 => ?_)
            · replace c88 : ¬(clF f m ((i : Nat) : Int) p) := kB_z.mp c88
              refine k_iinc (a := ((i : Nat) : Int)) (pc1 := 102) dX6_isKeptOut_99 rfl rfl (by decide) (k_loc (L' := [some (.ref o), some (.int (iI m)), some (.int (iI p)), some (.int (iI (((i : Nat) : Int) + 1)))]) rfl ?_)
              refine k_goto dX6_isKeptOut_102 (tgt := 62) rfl ?_
              exact ih62 _ (by omega) (i + 1) rfl (by omega) (fun j hj => if e : j = i then (fun z => by subst e; first | exact c78 z.1 | exact c88 z.2) else hJ j (by omega))
            · replace c88 : (clF f m ((i : Nat) : Int) p) := kB_nz.mp c88
              have e4 : ko4 f m p = ((i : Nat) : Int) := kls_at (n := (oF f m 3).toNat) (by omega) ⟨c78, c88⟩ hJ
              refine k_aload_n (pc1 := 92) dX6_isKeptOut_91 rfl rfl ?_
              refine k_iconst (pc1 := 93) dX6_isKeptOut_92 rfl ?_
              refine k_iload_n (pc1 := 94) dX6_isKeptOut_93 rfl rfl ?_
              refine k_iconst (pc1 := 95) dX6_isKeptOut_94 rfl ?_
              refine k_callVM (c' := 4) (wm' := wm) (wd' := wd) (f' := (rfF f 4 ((i : Nat) : Int))) (v := .int (iI 1)) dX6_isKeptOut_95 rfl lk_RX6_86 o_X6_refuses hM (w_X6_refuses hl hM 4 ((i : Nat) : Int) (by decide)) (as := [.int (iI 4), .int (iI ((i : Nat) : Int)), .int (iI 4)]) rfl rfl rfl (by decide) (by decide) (k8 rfl) (fun h115 hM115 hX115 => ?_)
              have hF115 := kFm_tr (kFm_rf o g r h) hX115
              first | (exfalso; omega) | exact k_iret dX6_isKeptOut_98 rfl rfl (kMq_mk rfl rfl (by first | rfl | rw [e3] | rw [e4]) hM115 hF115)
      exact hloop62 _ 0 rfl (by omega) (fun j hj => absurd hj (by omega))
    · skip
      have hi2 : inP f m ((i : Nat) : Int) := ⟨hm.1, hm.2, by omega, by omega⟩
      have hdd := kWf_d hW hi2.1 hi2.2.1 hi2.2.2.1 hi2.2.2.2
      have hr5 := kWf_room hW (r := dF f m ((i : Nat) : Int) 3) (by omega) (by omega)
      have hkp := kpo_rng (ppF f m) 6
      refine k_aload_n (pc1 := 13) dX6_isKeptOut_12 rfl rfl ?_
      refine k_iload_n (pc1 := 14) dX6_isKeptOut_13 rfl rfl ?_
      refine k_iload_n (pc1 := 15) dX6_isKeptOut_14 rfl rfl ?_
      refine k_callVP dX6_isKeptOut_15 rfl lk_RX6_49 o_X6_isOn (w_X6_isOn hl hM m ((i : Nat) : Int) hW ⟨by omega, by omega, by omega, by omega⟩) (as := [.int (iI m), .int (iI ((i : Nat) : Int))]) hM.1 rfl rfl rfl rfl (by decide) (by decide) (k8 rfl) ?_
      refine k_if_eq (a := kB (onF f m ((i : Nat) : Int))) dX6_isKeptOut_18 rfl (tgt := 54) rfl (kB_r _) (fun c18 : kB (onF f m ((i : Nat) : Int)) = 0 => ?_) (fun c18 : kB (onF f m ((i : Nat) : Int)) ≠ 0 => ?_)
      · replace c18 : ¬(onF f m ((i : Nat) : Int)) := kB_z.mp c18
        refine k_iinc (a := ((i : Nat) : Int)) (pc1 := 57) dX6_isKeptOut_54 rfl rfl (by decide) (k_loc (L' := [some (.ref o), some (.int (iI m)), some (.int (iI p)), some (.int (iI (((i : Nat) : Int) + 1)))]) rfl ?_)
        refine k_goto dX6_isKeptOut_57 (tgt := 2) rfl ?_
        exact ih2 _ (by omega) (i + 1) rfl (by omega) (fun j hj => if e : j = i then (fun z => by subst e; first | exact c18 z.1 | (have := z.2; omega)) else hJ j (by omega))
      · replace c18 : (onF f m ((i : Nat) : Int)) := kB_nz.mp c18
        refine k_aload_n (pc1 := 22) dX6_isKeptOut_21 rfl rfl ?_
        refine k_get (pc1 := 25) dX6_isKeptOut_22 rfl fd_RX6_7 hM.1 (v := .ref g) rfl ?_
        refine k_iconst (pc1 := 26) dX6_isKeptOut_25 rfl ?_
        refine k_aload_n (pc1 := 27) dX6_isKeptOut_26 rfl rfl ?_
        refine k_iload_n (pc1 := 28) dX6_isKeptOut_27 rfl rfl ?_
        refine k_iload_n (pc1 := 29) dX6_isKeptOut_28 rfl rfl ?_
        refine k_iconst (pc1 := 30) dX6_isKeptOut_29 rfl ?_
        refine k_callVP dX6_isKeptOut_30 rfl lk_RX6_45 o_X6_date (w_X6_date hl hM m ((i : Nat) : Int) 3 (by omega) (by omega)) (as := [.int (iI m), .int (iI ((i : Nat) : Int)), .int (iI 3)]) hM.1 rfl rfl rfl rfl (by decide) (by decide) (k8 rfl) ?_
        refine k_iadd (a := 5) (b := (dF f m ((i : Nat) : Int) 3)) (pc1 := 34) dX6_isKeptOut_33 rfl ?_
        refine k_iald (i := (5 + (dF f m ((i : Nat) : Int) 3))) (f := f) (pc1 := 35) dX6_isKeptOut_34 rfl hM.2.1 (N := 380) (by omega) (by omega) (by decide) (k_val (v' := .int (iI (f (5 + (dF f m ((i : Nat) : Int) 3)).toNat))) rfl ?_)
        refine k_aload_n (pc1 := 36) dX6_isKeptOut_35 rfl rfl ?_
        refine k_iload_n (pc1 := 37) dX6_isKeptOut_36 rfl rfl ?_
        refine k_callVP dX6_isKeptOut_37 rfl lk_RX6_59 o_X6_people (w_X6_people hl hM m hW (by omega) (by omega)) (as := [.int (iI m)]) hM.1 rfl rfl rfl rfl (by decide) (by decide) (k8 rfl) ?_
        refine k_callSP dX6_isKeptOut_40 rfl lk_RX6_63 o_X6_many (w_X6_many hl (ppF f m) (by first | omega | exact kmk_lt _ _ | assumption)) (as := [.int (iI (((ppF f m) : Nat) : Int))]) rfl rfl rfl (by decide) (by decide) (k8 rfl) ?_
        refine k_icmp_gt (a := (f (5 + (dF f m ((i : Nat) : Int) 3)).toNat)) (b := (kpo (ppF f m) 6)) dX6_isKeptOut_43 rfl (tgt := 54) rfl (by omega) (by omega) (fun c43 : (kpo (ppF f m) 6) < (f (5 + (dF f m ((i : Nat) : Int) 3)).toNat) => ?_) (fun c43 : (f (5 + (dF f m ((i : Nat) : Int) 3)).toNat) ≤ (kpo (ppF f m) 6) => ?_)
        · skip
          refine k_iinc (a := ((i : Nat) : Int)) (pc1 := 57) dX6_isKeptOut_54 rfl rfl (by decide) (k_loc (L' := [some (.ref o), some (.int (iI m)), some (.int (iI p)), some (.int (iI (((i : Nat) : Int) + 1)))]) rfl ?_)
          refine k_goto dX6_isKeptOut_57 (tgt := 2) rfl ?_
          exact ih2 _ (by omega) (i + 1) rfl (by omega) (fun j hj => if e : j = i then (fun z => by subst e; first | exact c18 z.1 | (have := z.2; omega)) else hJ j (by omega))
        · skip
          have e3 : ko3 f m = ((i : Nat) : Int) := kls_at (n := (oF f m 3).toNat) (by omega) ⟨c18, c43⟩ hJ
          refine k_aload_n (pc1 := 47) dX6_isKeptOut_46 rfl rfl ?_
          refine k_iconst (pc1 := 48) dX6_isKeptOut_47 rfl ?_
          refine k_iload_n (pc1 := 49) dX6_isKeptOut_48 rfl rfl ?_
          refine k_iconst (pc1 := 50) dX6_isKeptOut_49 rfl ?_
          refine k_callVM (c' := 4) (wm' := wm) (wd' := wd) (f' := (rfF f 3 ((i : Nat) : Int))) (v := .int (iI 1)) dX6_isKeptOut_50 rfl lk_RX6_86 o_X6_refuses hM (w_X6_refuses hl hM 3 ((i : Nat) : Int) (by decide)) (as := [.int (iI 3), .int (iI ((i : Nat) : Int)), .int (iI 4)]) rfl rfl rfl (by decide) (by decide) (k8 rfl) (fun h116 hM116 hX116 => ?_)
          have hF116 := kFm_tr (kFm_rf o g r h) hX116
          first | (exfalso; omega) | exact k_iret dX6_isKeptOut_53 rfl rfl (kMq_mk rfl rfl (by first | rfl | rw [e3] | rw [e4]) hM116 hF116)
  exact hloop2 _ 0 rfl (by omega) (fun j hj => absurd hj (by omega))
theorem w_X6_answer {l : Launch} {G : kG} {h : kAH} {o g r : Nat} {c : Int} {f : Nat → Int} (hl : l.stackTraces = false) (hM : kMd G h o g r c (-1) (-1) f) (hW : kWf f) (n p a : Int) (rn : -2147483648 ≤ n ∧ n < 2147483648) (rp : -2147483648 ≤ p ∧ p < 2147483648) (ha : 0 ≤ a ∧ a < 65536) : kC l G m_X6_answer 6 0 0 [.ref o, .int (iI n), .int (iI p), .int (iI a)] h (kMt G o g r (Tanswer f n p a) h) kNo := by
  have hwm : -1 ≤ (-1 : Int) ∧ (-1 : Int) < 8 := by decide
  have hwd : -1 ≤ (-1 : Int) ∧ (-1 : Int) < 6 := by decide
  have h8 := kWf_cnt hW
  have h9 := kWf_nxt hW
  have hat := atF_r (n := n) h8.1
  refine kC_of hl rfl rfl (Nat.le_of_ble_eq_true rfl) (L := [some (.ref o), some (.int (iI n)), some (.int (iI p)), some (.int (iI a)), none, none]) rfl ?_
  refine k_aload_n (pc1 := 1) dX6_answer_0 rfl rfl ?_
  refine k_iload_n (pc1 := 2) dX6_answer_1 rfl rfl ?_
  refine k_callVP dX6_answer_2 rfl lk_RX6_96 o_X6_at (w_X6_at hl hM n hW (by omega)) (as := [.int (iI n)]) hM.1 rfl rfl rfl rfl (by decide) (by decide) (k8 rfl) ?_
  refine k_istore (pc1 := 7) dX6_answer_5 rfl (by decide) (k_loc (L' := [some (.ref o), some (.int (iI n)), some (.int (iI p)), some (.int (iI a)), some (.int (iI (atF f n))), none]) rfl ?_)
  refine k_aload_n (pc1 := 8) dX6_answer_7 rfl rfl ?_
  refine k_iload (pc1 := 10) dX6_answer_8 rfl rfl ?_
  refine k_if_ge (a := (atF f n)) dX6_answer_10 rfl (tgt := 17) rfl (by omega) (fun c10 : 0 ≤ (atF f n) => ?_) (fun c10 : (atF f n) < 0 => ?_)
  · skip
    have hmm := kWf_m hW (m := atF f n) (by omega) (by omega)
    refine k_iload_n (pc1 := 18) dX6_answer_17 rfl rfl ?_
    refine k_callSP dX6_answer_18 rfl lk_RX6_74 o_X6_isPerson (w_X6_isPerson hl p (by omega)) (as := [.int (iI p)]) rfl rfl rfl (by decide) (by decide) (k8 rfl) ?_
    refine k_if_eq (a := kB (0 ≤ p ∧ p ≤ 5)) dX6_answer_21 rfl (tgt := 42) rfl (kB_r _) (fun c21 : kB (0 ≤ p ∧ p ≤ 5) = 0 => ?_) (fun c21 : kB (0 ≤ p ∧ p ≤ 5) ≠ 0 => ?_)
    · replace c21 : ¬(0 ≤ p ∧ p ≤ 5) := kB_z.mp c21
      refine k_iconst (pc1 := 43) dX6_answer_42 rfl ?_
      refine k_goto dX6_answer_43 (tgt := 65) rfl ?_
      refine k_callVM (c' := 2) (wm' := (-1)) (wd' := (-1)) (f' := f) (v := .int (iI 1)) dX6_answer_65 rfl lk_RX6_34 o_X6_fails hM (w_X6_failsT hl hM (by decide)) (as := [.int (iI 2)]) rfl rfl rfl (by decide) (by decide) (k8 rfl) (fun h117 hM117 hX117 => ?_)
      have hF117 := kFm_tr (kFm_rf o g r h) hX117
      refine k_if_eq (a := 1) dX6_answer_68 rfl (tgt := 74) rfl (by decide) (fun c => absurd c (by decide)) (fun _ => ?_)
      refine k_bipush 32 (pc1 := 73) dX6_answer_71 rfl (by decide) ?_
      exact k_iret dX6_answer_73 rfl (kn_c (by omega) (by omega)) (kMt_mk (c1 := 2) (v1 := 32) (f1 := f) (by unfold Tanswer; first | exact kI_t (by omega) | (rw [kI_f (by omega)]; first | exact kI_f (by omega) | (rw [kI_t (by omega)]; first | exact kI_t (by omega) | (rw [kI_f (by omega)]; first | exact kI_t (by omega) | (rw [kI_f (by omega)]; first | exact kI_t (by omega) | exact kI_f (by omega)))))) hM117 hF117)
    · replace c21 : (0 ≤ p ∧ p ≤ 5) := kB_nz.mp c21
      refine k_iload_n (pc1 := 25) dX6_answer_24 rfl rfl ?_
      refine k_bipush 121 (pc1 := 27) dX6_answer_25 rfl (by decide) ?_
      refine k_icmp_eq (a := a) (b := 121) dX6_answer_27 rfl (tgt := 46) rfl (by omega) (by decide) (fun c27 : a = 121 => ?_) (fun c27 : a ≠ 121 => ?_)
      · skip
        have hpp := kWf_p hW (m := atF f n) (p := p) (by omega) (by omega) (by omega) (by omega)
        refine k_aload_n (pc1 := 47) dX6_answer_46 rfl rfl ?_
        refine k_iload (pc1 := 49) dX6_answer_47 rfl rfl ?_
        refine k_iconst (pc1 := 50) dX6_answer_49 rfl ?_
        refine k_iload_n (pc1 := 51) dX6_answer_50 rfl rfl ?_
        refine k_iadd (a := 4) (b := p) (pc1 := 52) dX6_answer_51 rfl ?_
        refine k_callVP dX6_answer_52 rfl lk_RX6_37 o_X6_of (w_X6_of hl hM (atF f n) (4 + p) (by omega) (by omega)) (as := [.int (iI (atF f n)), .int (iI (4 + p))]) hM.1 rfl rfl rfl rfl (by decide) (by decide) (k8 rfl) ?_
        refine k_bipush 45 (pc1 := 57) dX6_answer_55 rfl (by decide) ?_
        refine k_icmp_ne (a := (oF f (atF f n) (4 + p))) (b := 45) dX6_answer_57 rfl (tgt := 64) rfl (by omega) (by decide) (fun c57 : (oF f (atF f n) (4 + p)) ≠ 45 => ?_) (fun c57 : (oF f (atF f n) (4 + p)) = 45 => ?_)
        · skip
          refine k_iconst (pc1 := 65) dX6_answer_64 rfl ?_
          refine k_callVM (c' := 0) (wm' := (-1)) (wd' := (-1)) (f' := f) (v := .int (iI 0)) dX6_answer_65 rfl lk_RX6_34 o_X6_fails hM (w_X6_failsF hl hM) (as := [.int (iI 0)]) rfl rfl rfl (by decide) (by decide) (k8 rfl) (fun h118 hM118 hX118 => ?_)
          have hF118 := kFm_tr (kFm_rf o g r h) hX118
          refine k_if_eq (a := 0) dX6_answer_68 rfl (tgt := 74) rfl (by decide) (fun _ => ?_) (fun c => absurd c (by decide))
          refine k_aload_n (pc1 := 75) dX6_answer_74 rfl rfl ?_
          refine k_iload (pc1 := 77) dX6_answer_75 rfl rfl ?_
          refine k_iconst (pc1 := 78) dX6_answer_77 rfl ?_
          refine k_iload_n (pc1 := 79) dX6_answer_78 rfl rfl ?_
          refine k_iadd (a := 4) (b := p) (pc1 := 80) dX6_answer_79 rfl ?_
          refine k_callVP dX6_answer_80 rfl lk_RX6_37 o_X6_of (w_X6_of hl hM118 (atF f n) (4 + p) (by omega) (by omega)) (as := [.int (iI (atF f n)), .int (iI (4 + p))]) hM118.1 rfl rfl rfl rfl (by decide) (by decide) (k8 rfl) ?_
          refine k_istore (pc1 := 85) dX6_answer_83 rfl (by decide) (k_loc (L' := [some (.ref o), some (.int (iI n)), some (.int (iI p)), some (.int (iI a)), some (.int (iI (atF f n))), some (.int (iI (oF f (atF f n) (4 + p))))]) rfl ?_)
          refine k_iload (pc1 := 87) dX6_answer_85 rfl rfl ?_
          refine k_bipush 110 (pc1 := 89) dX6_answer_87 rfl (by decide) ?_
          refine k_icmp_ne (a := (oF f (atF f n) (4 + p))) (b := 110) dX6_answer_89 rfl (tgt := 111) rfl (by omega) (by decide) (fun c89 : (oF f (atF f n) (4 + p)) ≠ 110 => ?_) (fun c89 : (oF f (atF f n) (4 + p)) = 110 => ?_)
          · skip
            refine k_aload_n (pc1 := 112) dX6_answer_111 rfl rfl ?_
            refine k_iload (pc1 := 114) dX6_answer_112 rfl rfl ?_
            refine k_iconst (pc1 := 115) dX6_answer_114 rfl ?_
            refine k_iload_n (pc1 := 116) dX6_answer_115 rfl rfl ?_
            refine k_iadd (a := 4) (b := p) (pc1 := 117) dX6_answer_116 rfl ?_
            refine k_iload_n (pc1 := 118) dX6_answer_117 rfl rfl ?_
            refine k_callVMn (c' := 0) (wm' := (-1)) (wd' := (-1)) (f' := (lyF f (atF f n) (4 + p) a)) dX6_answer_118 rfl lk_RX6_70 o_X6_lays hM118 (w_X6_lays hl hM118 (atF f n) (4 + p) a (by omega) (by omega)) (as := [.int (iI (atF f n)), .int (iI (4 + p)), .int (iI a)]) rfl rfl rfl (by decide) (by decide) (k8 rfl) (fun h119 hM119 hX119 => ?_)
            have hF119 := kFm_tr hF118 hX119
            refine k_iload (pc1 := 123) dX6_answer_121 rfl rfl ?_
            refine k_i2c (pc1 := 124) dX6_answer_123 rfl (k_val (v' := .int (iI (oF f (atF f n) (4 + p)))) (congrArg Value.int (iI_i2c (by omega) (by omega))) ?_)
            exact k_iret dX6_answer_124 rfl (kn_c (by omega) (by omega)) (kMt_mk (c1 := 0) (v1 := (oF f (atF f n) (4 + p))) (f1 := (lyF f (atF f n) (4 + p) a)) (by unfold Tanswer; first | exact kI_t (by omega) | (rw [kI_f (by omega)]; first | exact kI_f (by omega) | (rw [kI_t (by omega)]; first | exact kI_t (by omega) | (rw [kI_f (by omega)]; first | exact kI_t (by omega) | (rw [kI_f (by omega)]; first | exact kI_t (by omega) | exact kI_f (by omega)))))) hM119 hF119)
          · skip
            refine k_iload_n (pc1 := 93) dX6_answer_92 rfl rfl ?_
            refine k_bipush 110 (pc1 := 95) dX6_answer_93 rfl (by decide) ?_
            refine k_icmp_eq (a := a) (b := 110) dX6_answer_95 rfl (tgt := 111) rfl (by omega) (by decide) (fun c95 : a = 110 => ?_) (fun c95 : a ≠ 110 => ?_)
            · skip
              refine k_aload_n (pc1 := 112) dX6_answer_111 rfl rfl ?_
              refine k_iload (pc1 := 114) dX6_answer_112 rfl rfl ?_
              refine k_iconst (pc1 := 115) dX6_answer_114 rfl ?_
              refine k_iload_n (pc1 := 116) dX6_answer_115 rfl rfl ?_
              refine k_iadd (a := 4) (b := p) (pc1 := 117) dX6_answer_116 rfl ?_
              refine k_iload_n (pc1 := 118) dX6_answer_117 rfl rfl ?_
              refine k_callVMn (c' := 0) (wm' := (-1)) (wd' := (-1)) (f' := (lyF f (atF f n) (4 + p) a)) dX6_answer_118 rfl lk_RX6_70 o_X6_lays hM118 (w_X6_lays hl hM118 (atF f n) (4 + p) a (by omega) (by omega)) (as := [.int (iI (atF f n)), .int (iI (4 + p)), .int (iI a)]) rfl rfl rfl (by decide) (by decide) (k8 rfl) (fun h120 hM120 hX120 => ?_)
              have hF120 := kFm_tr hF118 hX120
              refine k_iload (pc1 := 123) dX6_answer_121 rfl rfl ?_
              refine k_i2c (pc1 := 124) dX6_answer_123 rfl (k_val (v' := .int (iI (oF f (atF f n) (4 + p)))) (congrArg Value.int (iI_i2c (by omega) (by omega))) ?_)
              exact k_iret dX6_answer_124 rfl (kn_c (by omega) (by omega)) (kMt_mk (c1 := 0) (v1 := (oF f (atF f n) (4 + p))) (f1 := (lyF f (atF f n) (4 + p) a)) (by unfold Tanswer; first | exact kI_t (by omega) | (rw [kI_f (by omega)]; first | exact kI_f (by omega) | (rw [kI_t (by omega)]; first | exact kI_t (by omega) | (rw [kI_f (by omega)]; first | exact kI_t (by omega) | (rw [kI_f (by omega)]; first | exact kI_t (by omega) | exact kI_f (by omega)))))) hM120 hF120)
            · skip
              refine k_aload_n (pc1 := 99) dX6_answer_98 rfl rfl ?_
              refine k_iload (pc1 := 101) dX6_answer_99 rfl rfl ?_
              refine k_iload_n (pc1 := 102) dX6_answer_101 rfl rfl ?_
              by_cases hK0 : 0 ≤ ko3 f (atF f n)
              · skip
                refine k_callVM (c' := 4) (wm' := (-1)) (wd' := (-1)) (f' := (rfF f 3 (ko3 f (atF f n)))) (v := .int (iI 1)) dX6_answer_102 rfl lk_RX6_105 o_X6_isKeptOut hM118 (w_X6_isKeptOutT hl hM118 hW ⟨by omega, by omega⟩ ⟨by omega, by omega⟩ hK0) (as := [.int (iI (atF f n)), .int (iI p)]) rfl rfl rfl (by decide) (by decide) (k8 rfl) (fun h121 hM121 hX121 => ?_)
                have hF121 := kFm_tr hF118 hX121
                refine k_if_eq (a := 1) dX6_answer_105 rfl (tgt := 111) rfl (by decide) (fun c => absurd c (by decide)) (fun _ => ?_)
                refine k_bipush 32 (pc1 := 110) dX6_answer_108 rfl (by decide) ?_
                exact k_iret dX6_answer_110 rfl (kn_c (by omega) (by omega)) (kMt_mk (c1 := 4) (v1 := 32) (f1 := (rfF f 3 (ko3 f (atF f n)))) (by unfold Tanswer; first | exact kI_t (by omega) | (rw [kI_f (by omega)]; first | exact kI_f (by omega) | (rw [kI_t (by omega)]; first | exact kI_t (by omega) | (rw [kI_f (by omega)]; first | exact kI_t (by omega) | (rw [kI_f (by omega)]; first | exact kI_t (by omega) | exact kI_f (by omega)))))) hM121 hF121)
              · skip
                by_cases hK1 : 0 ≤ ko4 f (atF f n) p
                · skip
                  refine k_callVM (c' := 4) (wm' := (-1)) (wd' := (-1)) (f' := (rfF f 4 (ko4 f (atF f n) p))) (v := .int (iI 1)) dX6_answer_102 rfl lk_RX6_105 o_X6_isKeptOut hM118 (w_X6_isKeptOutU hl hM118 hW ⟨by omega, by omega⟩ ⟨by omega, by omega⟩ ⟨hK0, hK1⟩) (as := [.int (iI (atF f n)), .int (iI p)]) rfl rfl rfl (by decide) (by decide) (k8 rfl) (fun h122 hM122 hX122 => ?_)
                  have hF122 := kFm_tr hF118 hX122
                  refine k_if_eq (a := 1) dX6_answer_105 rfl (tgt := 111) rfl (by decide) (fun c => absurd c (by decide)) (fun _ => ?_)
                  refine k_bipush 32 (pc1 := 110) dX6_answer_108 rfl (by decide) ?_
                  exact k_iret dX6_answer_110 rfl (kn_c (by omega) (by omega)) (kMt_mk (c1 := 4) (v1 := 32) (f1 := (rfF f 4 (ko4 f (atF f n) p))) (by unfold Tanswer; first | exact kI_t (by omega) | (rw [kI_f (by omega)]; first | exact kI_f (by omega) | (rw [kI_t (by omega)]; first | exact kI_t (by omega) | (rw [kI_f (by omega)]; first | exact kI_t (by omega) | (rw [kI_f (by omega)]; first | exact kI_t (by omega) | exact kI_f (by omega)))))) hM122 hF122)
                · skip
                  refine k_callVM (c' := 0) (wm' := (-1)) (wd' := (-1)) (f' := f) (v := .int (iI 0)) dX6_answer_102 rfl lk_RX6_105 o_X6_isKeptOut hM118 (w_X6_isKeptOutF hl hM118 hW ⟨by omega, by omega⟩ ⟨by omega, by omega⟩ ⟨hK0, hK1⟩) (as := [.int (iI (atF f n)), .int (iI p)]) rfl rfl rfl (by decide) (by decide) (k8 rfl) (fun h123 hM123 hX123 => ?_)
                  have hF123 := kFm_tr hF118 hX123
                  refine k_if_eq (a := 0) dX6_answer_105 rfl (tgt := 111) rfl (by decide) (fun _ => ?_) (fun c => absurd c (by decide))
                  refine k_aload_n (pc1 := 112) dX6_answer_111 rfl rfl ?_
                  refine k_iload (pc1 := 114) dX6_answer_112 rfl rfl ?_
                  refine k_iconst (pc1 := 115) dX6_answer_114 rfl ?_
                  refine k_iload_n (pc1 := 116) dX6_answer_115 rfl rfl ?_
                  refine k_iadd (a := 4) (b := p) (pc1 := 117) dX6_answer_116 rfl ?_
                  refine k_iload_n (pc1 := 118) dX6_answer_117 rfl rfl ?_
                  refine k_callVMn (c' := 0) (wm' := (-1)) (wd' := (-1)) (f' := (lyF f (atF f n) (4 + p) a)) dX6_answer_118 rfl lk_RX6_70 o_X6_lays hM123 (w_X6_lays hl hM123 (atF f n) (4 + p) a (by omega) (by omega)) (as := [.int (iI (atF f n)), .int (iI (4 + p)), .int (iI a)]) rfl rfl rfl (by decide) (by decide) (k8 rfl) (fun h124 hM124 hX124 => ?_)
                  have hF124 := kFm_tr hF123 hX124
                  refine k_iload (pc1 := 123) dX6_answer_121 rfl rfl ?_
                  refine k_i2c (pc1 := 124) dX6_answer_123 rfl (k_val (v' := .int (iI (oF f (atF f n) (4 + p)))) (congrArg Value.int (iI_i2c (by omega) (by omega))) ?_)
                  exact k_iret dX6_answer_124 rfl (kn_c (by omega) (by omega)) (kMt_mk (c1 := 0) (v1 := (oF f (atF f n) (4 + p))) (f1 := (lyF f (atF f n) (4 + p) a)) (by unfold Tanswer; first | exact kI_t (by omega) | (rw [kI_f (by omega)]; first | exact kI_f (by omega) | (rw [kI_t (by omega)]; first | exact kI_t (by omega) | (rw [kI_f (by omega)]; first | exact kI_t (by omega) | (rw [kI_f (by omega)]; first | exact kI_t (by omega) | exact kI_f (by omega)))))) hM124 hF124)
        · skip
          refine k_iconst (pc1 := 61) dX6_answer_60 rfl ?_
          refine k_goto dX6_answer_61 (tgt := 65) rfl ?_
          refine k_callVM (c' := 3) (wm' := (-1)) (wd' := (-1)) (f' := f) (v := .int (iI 1)) dX6_answer_65 rfl lk_RX6_34 o_X6_fails hM (w_X6_failsT hl hM (by decide)) (as := [.int (iI 3)]) rfl rfl rfl (by decide) (by decide) (k8 rfl) (fun h125 hM125 hX125 => ?_)
          have hF125 := kFm_tr (kFm_rf o g r h) hX125
          refine k_if_eq (a := 1) dX6_answer_68 rfl (tgt := 74) rfl (by decide) (fun c => absurd c (by decide)) (fun _ => ?_)
          refine k_bipush 32 (pc1 := 73) dX6_answer_71 rfl (by decide) ?_
          exact k_iret dX6_answer_73 rfl (kn_c (by omega) (by omega)) (kMt_mk (c1 := 3) (v1 := 32) (f1 := f) (by unfold Tanswer; first | exact kI_t (by omega) | (rw [kI_f (by omega)]; first | exact kI_f (by omega) | (rw [kI_t (by omega)]; first | exact kI_t (by omega) | (rw [kI_f (by omega)]; first | exact kI_t (by omega) | (rw [kI_f (by omega)]; first | exact kI_t (by omega) | exact kI_f (by omega)))))) hM125 hF125)
      · skip
        refine k_iload_n (pc1 := 31) dX6_answer_30 rfl rfl ?_
        refine k_bipush 110 (pc1 := 33) dX6_answer_31 rfl (by decide) ?_
        refine k_icmp_eq (a := a) (b := 110) dX6_answer_33 rfl (tgt := 46) rfl (by omega) (by decide) (fun c33 : a = 110 => ?_) (fun c33 : a ≠ 110 => ?_)
        · skip
          have hpp := kWf_p hW (m := atF f n) (p := p) (by omega) (by omega) (by omega) (by omega)
          refine k_aload_n (pc1 := 47) dX6_answer_46 rfl rfl ?_
          refine k_iload (pc1 := 49) dX6_answer_47 rfl rfl ?_
          refine k_iconst (pc1 := 50) dX6_answer_49 rfl ?_
          refine k_iload_n (pc1 := 51) dX6_answer_50 rfl rfl ?_
          refine k_iadd (a := 4) (b := p) (pc1 := 52) dX6_answer_51 rfl ?_
          refine k_callVP dX6_answer_52 rfl lk_RX6_37 o_X6_of (w_X6_of hl hM (atF f n) (4 + p) (by omega) (by omega)) (as := [.int (iI (atF f n)), .int (iI (4 + p))]) hM.1 rfl rfl rfl rfl (by decide) (by decide) (k8 rfl) ?_
          refine k_bipush 45 (pc1 := 57) dX6_answer_55 rfl (by decide) ?_
          refine k_icmp_ne (a := (oF f (atF f n) (4 + p))) (b := 45) dX6_answer_57 rfl (tgt := 64) rfl (by omega) (by decide) (fun c57 : (oF f (atF f n) (4 + p)) ≠ 45 => ?_) (fun c57 : (oF f (atF f n) (4 + p)) = 45 => ?_)
          · skip
            refine k_iconst (pc1 := 65) dX6_answer_64 rfl ?_
            refine k_callVM (c' := 0) (wm' := (-1)) (wd' := (-1)) (f' := f) (v := .int (iI 0)) dX6_answer_65 rfl lk_RX6_34 o_X6_fails hM (w_X6_failsF hl hM) (as := [.int (iI 0)]) rfl rfl rfl (by decide) (by decide) (k8 rfl) (fun h126 hM126 hX126 => ?_)
            have hF126 := kFm_tr (kFm_rf o g r h) hX126
            refine k_if_eq (a := 0) dX6_answer_68 rfl (tgt := 74) rfl (by decide) (fun _ => ?_) (fun c => absurd c (by decide))
            refine k_aload_n (pc1 := 75) dX6_answer_74 rfl rfl ?_
            refine k_iload (pc1 := 77) dX6_answer_75 rfl rfl ?_
            refine k_iconst (pc1 := 78) dX6_answer_77 rfl ?_
            refine k_iload_n (pc1 := 79) dX6_answer_78 rfl rfl ?_
            refine k_iadd (a := 4) (b := p) (pc1 := 80) dX6_answer_79 rfl ?_
            refine k_callVP dX6_answer_80 rfl lk_RX6_37 o_X6_of (w_X6_of hl hM126 (atF f n) (4 + p) (by omega) (by omega)) (as := [.int (iI (atF f n)), .int (iI (4 + p))]) hM126.1 rfl rfl rfl rfl (by decide) (by decide) (k8 rfl) ?_
            refine k_istore (pc1 := 85) dX6_answer_83 rfl (by decide) (k_loc (L' := [some (.ref o), some (.int (iI n)), some (.int (iI p)), some (.int (iI a)), some (.int (iI (atF f n))), some (.int (iI (oF f (atF f n) (4 + p))))]) rfl ?_)
            refine k_iload (pc1 := 87) dX6_answer_85 rfl rfl ?_
            refine k_bipush 110 (pc1 := 89) dX6_answer_87 rfl (by decide) ?_
            refine k_icmp_ne (a := (oF f (atF f n) (4 + p))) (b := 110) dX6_answer_89 rfl (tgt := 111) rfl (by omega) (by decide) (fun c89 : (oF f (atF f n) (4 + p)) ≠ 110 => ?_) (fun c89 : (oF f (atF f n) (4 + p)) = 110 => ?_)
            · skip
              refine k_aload_n (pc1 := 112) dX6_answer_111 rfl rfl ?_
              refine k_iload (pc1 := 114) dX6_answer_112 rfl rfl ?_
              refine k_iconst (pc1 := 115) dX6_answer_114 rfl ?_
              refine k_iload_n (pc1 := 116) dX6_answer_115 rfl rfl ?_
              refine k_iadd (a := 4) (b := p) (pc1 := 117) dX6_answer_116 rfl ?_
              refine k_iload_n (pc1 := 118) dX6_answer_117 rfl rfl ?_
              refine k_callVMn (c' := 0) (wm' := (-1)) (wd' := (-1)) (f' := (lyF f (atF f n) (4 + p) a)) dX6_answer_118 rfl lk_RX6_70 o_X6_lays hM126 (w_X6_lays hl hM126 (atF f n) (4 + p) a (by omega) (by omega)) (as := [.int (iI (atF f n)), .int (iI (4 + p)), .int (iI a)]) rfl rfl rfl (by decide) (by decide) (k8 rfl) (fun h127 hM127 hX127 => ?_)
              have hF127 := kFm_tr hF126 hX127
              refine k_iload (pc1 := 123) dX6_answer_121 rfl rfl ?_
              refine k_i2c (pc1 := 124) dX6_answer_123 rfl (k_val (v' := .int (iI (oF f (atF f n) (4 + p)))) (congrArg Value.int (iI_i2c (by omega) (by omega))) ?_)
              exact k_iret dX6_answer_124 rfl (kn_c (by omega) (by omega)) (kMt_mk (c1 := 0) (v1 := (oF f (atF f n) (4 + p))) (f1 := (lyF f (atF f n) (4 + p) a)) (by unfold Tanswer; first | exact kI_t (by omega) | (rw [kI_f (by omega)]; first | exact kI_f (by omega) | (rw [kI_t (by omega)]; first | exact kI_t (by omega) | (rw [kI_f (by omega)]; first | exact kI_t (by omega) | (rw [kI_f (by omega)]; first | exact kI_t (by omega) | exact kI_f (by omega)))))) hM127 hF127)
            · skip
              refine k_iload_n (pc1 := 93) dX6_answer_92 rfl rfl ?_
              refine k_bipush 110 (pc1 := 95) dX6_answer_93 rfl (by decide) ?_
              refine k_icmp_eq (a := a) (b := 110) dX6_answer_95 rfl (tgt := 111) rfl (by omega) (by decide) (fun c95 : a = 110 => ?_) (fun c95 : a ≠ 110 => ?_)
              · skip
                refine k_aload_n (pc1 := 112) dX6_answer_111 rfl rfl ?_
                refine k_iload (pc1 := 114) dX6_answer_112 rfl rfl ?_
                refine k_iconst (pc1 := 115) dX6_answer_114 rfl ?_
                refine k_iload_n (pc1 := 116) dX6_answer_115 rfl rfl ?_
                refine k_iadd (a := 4) (b := p) (pc1 := 117) dX6_answer_116 rfl ?_
                refine k_iload_n (pc1 := 118) dX6_answer_117 rfl rfl ?_
                refine k_callVMn (c' := 0) (wm' := (-1)) (wd' := (-1)) (f' := (lyF f (atF f n) (4 + p) a)) dX6_answer_118 rfl lk_RX6_70 o_X6_lays hM126 (w_X6_lays hl hM126 (atF f n) (4 + p) a (by omega) (by omega)) (as := [.int (iI (atF f n)), .int (iI (4 + p)), .int (iI a)]) rfl rfl rfl (by decide) (by decide) (k8 rfl) (fun h128 hM128 hX128 => ?_)
                have hF128 := kFm_tr hF126 hX128
                refine k_iload (pc1 := 123) dX6_answer_121 rfl rfl ?_
                refine k_i2c (pc1 := 124) dX6_answer_123 rfl (k_val (v' := .int (iI (oF f (atF f n) (4 + p)))) (congrArg Value.int (iI_i2c (by omega) (by omega))) ?_)
                exact k_iret dX6_answer_124 rfl (kn_c (by omega) (by omega)) (kMt_mk (c1 := 0) (v1 := (oF f (atF f n) (4 + p))) (f1 := (lyF f (atF f n) (4 + p) a)) (by unfold Tanswer; first | exact kI_t (by omega) | (rw [kI_f (by omega)]; first | exact kI_f (by omega) | (rw [kI_t (by omega)]; first | exact kI_t (by omega) | (rw [kI_f (by omega)]; first | exact kI_t (by omega) | (rw [kI_f (by omega)]; first | exact kI_t (by omega) | exact kI_f (by omega)))))) hM128 hF128)
              · skip
                refine k_aload_n (pc1 := 99) dX6_answer_98 rfl rfl ?_
                refine k_iload (pc1 := 101) dX6_answer_99 rfl rfl ?_
                refine k_iload_n (pc1 := 102) dX6_answer_101 rfl rfl ?_
                by_cases hK0 : 0 ≤ ko3 f (atF f n)
                · skip
                  refine k_callVM (c' := 4) (wm' := (-1)) (wd' := (-1)) (f' := (rfF f 3 (ko3 f (atF f n)))) (v := .int (iI 1)) dX6_answer_102 rfl lk_RX6_105 o_X6_isKeptOut hM126 (w_X6_isKeptOutT hl hM126 hW ⟨by omega, by omega⟩ ⟨by omega, by omega⟩ hK0) (as := [.int (iI (atF f n)), .int (iI p)]) rfl rfl rfl (by decide) (by decide) (k8 rfl) (fun h129 hM129 hX129 => ?_)
                  have hF129 := kFm_tr hF126 hX129
                  refine k_if_eq (a := 1) dX6_answer_105 rfl (tgt := 111) rfl (by decide) (fun c => absurd c (by decide)) (fun _ => ?_)
                  refine k_bipush 32 (pc1 := 110) dX6_answer_108 rfl (by decide) ?_
                  exact k_iret dX6_answer_110 rfl (kn_c (by omega) (by omega)) (kMt_mk (c1 := 4) (v1 := 32) (f1 := (rfF f 3 (ko3 f (atF f n)))) (by unfold Tanswer; first | exact kI_t (by omega) | (rw [kI_f (by omega)]; first | exact kI_f (by omega) | (rw [kI_t (by omega)]; first | exact kI_t (by omega) | (rw [kI_f (by omega)]; first | exact kI_t (by omega) | (rw [kI_f (by omega)]; first | exact kI_t (by omega) | exact kI_f (by omega)))))) hM129 hF129)
                · skip
                  by_cases hK1 : 0 ≤ ko4 f (atF f n) p
                  · skip
                    refine k_callVM (c' := 4) (wm' := (-1)) (wd' := (-1)) (f' := (rfF f 4 (ko4 f (atF f n) p))) (v := .int (iI 1)) dX6_answer_102 rfl lk_RX6_105 o_X6_isKeptOut hM126 (w_X6_isKeptOutU hl hM126 hW ⟨by omega, by omega⟩ ⟨by omega, by omega⟩ ⟨hK0, hK1⟩) (as := [.int (iI (atF f n)), .int (iI p)]) rfl rfl rfl (by decide) (by decide) (k8 rfl) (fun h130 hM130 hX130 => ?_)
                    have hF130 := kFm_tr hF126 hX130
                    refine k_if_eq (a := 1) dX6_answer_105 rfl (tgt := 111) rfl (by decide) (fun c => absurd c (by decide)) (fun _ => ?_)
                    refine k_bipush 32 (pc1 := 110) dX6_answer_108 rfl (by decide) ?_
                    exact k_iret dX6_answer_110 rfl (kn_c (by omega) (by omega)) (kMt_mk (c1 := 4) (v1 := 32) (f1 := (rfF f 4 (ko4 f (atF f n) p))) (by unfold Tanswer; first | exact kI_t (by omega) | (rw [kI_f (by omega)]; first | exact kI_f (by omega) | (rw [kI_t (by omega)]; first | exact kI_t (by omega) | (rw [kI_f (by omega)]; first | exact kI_t (by omega) | (rw [kI_f (by omega)]; first | exact kI_t (by omega) | exact kI_f (by omega)))))) hM130 hF130)
                  · skip
                    refine k_callVM (c' := 0) (wm' := (-1)) (wd' := (-1)) (f' := f) (v := .int (iI 0)) dX6_answer_102 rfl lk_RX6_105 o_X6_isKeptOut hM126 (w_X6_isKeptOutF hl hM126 hW ⟨by omega, by omega⟩ ⟨by omega, by omega⟩ ⟨hK0, hK1⟩) (as := [.int (iI (atF f n)), .int (iI p)]) rfl rfl rfl (by decide) (by decide) (k8 rfl) (fun h131 hM131 hX131 => ?_)
                    have hF131 := kFm_tr hF126 hX131
                    refine k_if_eq (a := 0) dX6_answer_105 rfl (tgt := 111) rfl (by decide) (fun _ => ?_) (fun c => absurd c (by decide))
                    refine k_aload_n (pc1 := 112) dX6_answer_111 rfl rfl ?_
                    refine k_iload (pc1 := 114) dX6_answer_112 rfl rfl ?_
                    refine k_iconst (pc1 := 115) dX6_answer_114 rfl ?_
                    refine k_iload_n (pc1 := 116) dX6_answer_115 rfl rfl ?_
                    refine k_iadd (a := 4) (b := p) (pc1 := 117) dX6_answer_116 rfl ?_
                    refine k_iload_n (pc1 := 118) dX6_answer_117 rfl rfl ?_
                    refine k_callVMn (c' := 0) (wm' := (-1)) (wd' := (-1)) (f' := (lyF f (atF f n) (4 + p) a)) dX6_answer_118 rfl lk_RX6_70 o_X6_lays hM131 (w_X6_lays hl hM131 (atF f n) (4 + p) a (by omega) (by omega)) (as := [.int (iI (atF f n)), .int (iI (4 + p)), .int (iI a)]) rfl rfl rfl (by decide) (by decide) (k8 rfl) (fun h132 hM132 hX132 => ?_)
                    have hF132 := kFm_tr hF131 hX132
                    refine k_iload (pc1 := 123) dX6_answer_121 rfl rfl ?_
                    refine k_i2c (pc1 := 124) dX6_answer_123 rfl (k_val (v' := .int (iI (oF f (atF f n) (4 + p)))) (congrArg Value.int (iI_i2c (by omega) (by omega))) ?_)
                    exact k_iret dX6_answer_124 rfl (kn_c (by omega) (by omega)) (kMt_mk (c1 := 0) (v1 := (oF f (atF f n) (4 + p))) (f1 := (lyF f (atF f n) (4 + p) a)) (by unfold Tanswer; first | exact kI_t (by omega) | (rw [kI_f (by omega)]; first | exact kI_f (by omega) | (rw [kI_t (by omega)]; first | exact kI_t (by omega) | (rw [kI_f (by omega)]; first | exact kI_t (by omega) | (rw [kI_f (by omega)]; first | exact kI_t (by omega) | exact kI_f (by omega)))))) hM132 hF132)
          · skip
            refine k_iconst (pc1 := 61) dX6_answer_60 rfl ?_
            refine k_goto dX6_answer_61 (tgt := 65) rfl ?_
            refine k_callVM (c' := 3) (wm' := (-1)) (wd' := (-1)) (f' := f) (v := .int (iI 1)) dX6_answer_65 rfl lk_RX6_34 o_X6_fails hM (w_X6_failsT hl hM (by decide)) (as := [.int (iI 3)]) rfl rfl rfl (by decide) (by decide) (k8 rfl) (fun h133 hM133 hX133 => ?_)
            have hF133 := kFm_tr (kFm_rf o g r h) hX133
            refine k_if_eq (a := 1) dX6_answer_68 rfl (tgt := 74) rfl (by decide) (fun c => absurd c (by decide)) (fun _ => ?_)
            refine k_bipush 32 (pc1 := 73) dX6_answer_71 rfl (by decide) ?_
            exact k_iret dX6_answer_73 rfl (kn_c (by omega) (by omega)) (kMt_mk (c1 := 3) (v1 := 32) (f1 := f) (by unfold Tanswer; first | exact kI_t (by omega) | (rw [kI_f (by omega)]; first | exact kI_f (by omega) | (rw [kI_t (by omega)]; first | exact kI_t (by omega) | (rw [kI_f (by omega)]; first | exact kI_t (by omega) | (rw [kI_f (by omega)]; first | exact kI_t (by omega) | exact kI_f (by omega)))))) hM133 hF133)
        · skip
          refine k_iload_n (pc1 := 37) dX6_answer_36 rfl rfl ?_
          refine k_bipush 111 (pc1 := 39) dX6_answer_37 rfl (by decide) ?_
          refine k_icmp_eq (a := a) (b := 111) dX6_answer_39 rfl (tgt := 46) rfl (by omega) (by decide) (fun c39 : a = 111 => ?_) (fun c39 : a ≠ 111 => ?_)
          · skip
            have hpp := kWf_p hW (m := atF f n) (p := p) (by omega) (by omega) (by omega) (by omega)
            refine k_aload_n (pc1 := 47) dX6_answer_46 rfl rfl ?_
            refine k_iload (pc1 := 49) dX6_answer_47 rfl rfl ?_
            refine k_iconst (pc1 := 50) dX6_answer_49 rfl ?_
            refine k_iload_n (pc1 := 51) dX6_answer_50 rfl rfl ?_
            refine k_iadd (a := 4) (b := p) (pc1 := 52) dX6_answer_51 rfl ?_
            refine k_callVP dX6_answer_52 rfl lk_RX6_37 o_X6_of (w_X6_of hl hM (atF f n) (4 + p) (by omega) (by omega)) (as := [.int (iI (atF f n)), .int (iI (4 + p))]) hM.1 rfl rfl rfl rfl (by decide) (by decide) (k8 rfl) ?_
            refine k_bipush 45 (pc1 := 57) dX6_answer_55 rfl (by decide) ?_
            refine k_icmp_ne (a := (oF f (atF f n) (4 + p))) (b := 45) dX6_answer_57 rfl (tgt := 64) rfl (by omega) (by decide) (fun c57 : (oF f (atF f n) (4 + p)) ≠ 45 => ?_) (fun c57 : (oF f (atF f n) (4 + p)) = 45 => ?_)
            · skip
              refine k_iconst (pc1 := 65) dX6_answer_64 rfl ?_
              refine k_callVM (c' := 0) (wm' := (-1)) (wd' := (-1)) (f' := f) (v := .int (iI 0)) dX6_answer_65 rfl lk_RX6_34 o_X6_fails hM (w_X6_failsF hl hM) (as := [.int (iI 0)]) rfl rfl rfl (by decide) (by decide) (k8 rfl) (fun h134 hM134 hX134 => ?_)
              have hF134 := kFm_tr (kFm_rf o g r h) hX134
              refine k_if_eq (a := 0) dX6_answer_68 rfl (tgt := 74) rfl (by decide) (fun _ => ?_) (fun c => absurd c (by decide))
              refine k_aload_n (pc1 := 75) dX6_answer_74 rfl rfl ?_
              refine k_iload (pc1 := 77) dX6_answer_75 rfl rfl ?_
              refine k_iconst (pc1 := 78) dX6_answer_77 rfl ?_
              refine k_iload_n (pc1 := 79) dX6_answer_78 rfl rfl ?_
              refine k_iadd (a := 4) (b := p) (pc1 := 80) dX6_answer_79 rfl ?_
              refine k_callVP dX6_answer_80 rfl lk_RX6_37 o_X6_of (w_X6_of hl hM134 (atF f n) (4 + p) (by omega) (by omega)) (as := [.int (iI (atF f n)), .int (iI (4 + p))]) hM134.1 rfl rfl rfl rfl (by decide) (by decide) (k8 rfl) ?_
              refine k_istore (pc1 := 85) dX6_answer_83 rfl (by decide) (k_loc (L' := [some (.ref o), some (.int (iI n)), some (.int (iI p)), some (.int (iI a)), some (.int (iI (atF f n))), some (.int (iI (oF f (atF f n) (4 + p))))]) rfl ?_)
              refine k_iload (pc1 := 87) dX6_answer_85 rfl rfl ?_
              refine k_bipush 110 (pc1 := 89) dX6_answer_87 rfl (by decide) ?_
              refine k_icmp_ne (a := (oF f (atF f n) (4 + p))) (b := 110) dX6_answer_89 rfl (tgt := 111) rfl (by omega) (by decide) (fun c89 : (oF f (atF f n) (4 + p)) ≠ 110 => ?_) (fun c89 : (oF f (atF f n) (4 + p)) = 110 => ?_)
              · skip
                refine k_aload_n (pc1 := 112) dX6_answer_111 rfl rfl ?_
                refine k_iload (pc1 := 114) dX6_answer_112 rfl rfl ?_
                refine k_iconst (pc1 := 115) dX6_answer_114 rfl ?_
                refine k_iload_n (pc1 := 116) dX6_answer_115 rfl rfl ?_
                refine k_iadd (a := 4) (b := p) (pc1 := 117) dX6_answer_116 rfl ?_
                refine k_iload_n (pc1 := 118) dX6_answer_117 rfl rfl ?_
                refine k_callVMn (c' := 0) (wm' := (-1)) (wd' := (-1)) (f' := (lyF f (atF f n) (4 + p) a)) dX6_answer_118 rfl lk_RX6_70 o_X6_lays hM134 (w_X6_lays hl hM134 (atF f n) (4 + p) a (by omega) (by omega)) (as := [.int (iI (atF f n)), .int (iI (4 + p)), .int (iI a)]) rfl rfl rfl (by decide) (by decide) (k8 rfl) (fun h135 hM135 hX135 => ?_)
                have hF135 := kFm_tr hF134 hX135
                refine k_iload (pc1 := 123) dX6_answer_121 rfl rfl ?_
                refine k_i2c (pc1 := 124) dX6_answer_123 rfl (k_val (v' := .int (iI (oF f (atF f n) (4 + p)))) (congrArg Value.int (iI_i2c (by omega) (by omega))) ?_)
                exact k_iret dX6_answer_124 rfl (kn_c (by omega) (by omega)) (kMt_mk (c1 := 0) (v1 := (oF f (atF f n) (4 + p))) (f1 := (lyF f (atF f n) (4 + p) a)) (by unfold Tanswer; first | exact kI_t (by omega) | (rw [kI_f (by omega)]; first | exact kI_f (by omega) | (rw [kI_t (by omega)]; first | exact kI_t (by omega) | (rw [kI_f (by omega)]; first | exact kI_t (by omega) | (rw [kI_f (by omega)]; first | exact kI_t (by omega) | exact kI_f (by omega)))))) hM135 hF135)
              · skip
                refine k_iload_n (pc1 := 93) dX6_answer_92 rfl rfl ?_
                refine k_bipush 110 (pc1 := 95) dX6_answer_93 rfl (by decide) ?_
                refine k_icmp_eq (a := a) (b := 110) dX6_answer_95 rfl (tgt := 111) rfl (by omega) (by decide) (fun c95 : a = 110 => ?_) (fun c95 : a ≠ 110 => ?_)
                · skip
                  refine k_aload_n (pc1 := 112) dX6_answer_111 rfl rfl ?_
                  refine k_iload (pc1 := 114) dX6_answer_112 rfl rfl ?_
                  refine k_iconst (pc1 := 115) dX6_answer_114 rfl ?_
                  refine k_iload_n (pc1 := 116) dX6_answer_115 rfl rfl ?_
                  refine k_iadd (a := 4) (b := p) (pc1 := 117) dX6_answer_116 rfl ?_
                  refine k_iload_n (pc1 := 118) dX6_answer_117 rfl rfl ?_
                  refine k_callVMn (c' := 0) (wm' := (-1)) (wd' := (-1)) (f' := (lyF f (atF f n) (4 + p) a)) dX6_answer_118 rfl lk_RX6_70 o_X6_lays hM134 (w_X6_lays hl hM134 (atF f n) (4 + p) a (by omega) (by omega)) (as := [.int (iI (atF f n)), .int (iI (4 + p)), .int (iI a)]) rfl rfl rfl (by decide) (by decide) (k8 rfl) (fun h136 hM136 hX136 => ?_)
                  have hF136 := kFm_tr hF134 hX136
                  refine k_iload (pc1 := 123) dX6_answer_121 rfl rfl ?_
                  refine k_i2c (pc1 := 124) dX6_answer_123 rfl (k_val (v' := .int (iI (oF f (atF f n) (4 + p)))) (congrArg Value.int (iI_i2c (by omega) (by omega))) ?_)
                  exact k_iret dX6_answer_124 rfl (kn_c (by omega) (by omega)) (kMt_mk (c1 := 0) (v1 := (oF f (atF f n) (4 + p))) (f1 := (lyF f (atF f n) (4 + p) a)) (by unfold Tanswer; first | exact kI_t (by omega) | (rw [kI_f (by omega)]; first | exact kI_f (by omega) | (rw [kI_t (by omega)]; first | exact kI_t (by omega) | (rw [kI_f (by omega)]; first | exact kI_t (by omega) | (rw [kI_f (by omega)]; first | exact kI_t (by omega) | exact kI_f (by omega)))))) hM136 hF136)
                · skip
                  refine k_aload_n (pc1 := 99) dX6_answer_98 rfl rfl ?_
                  refine k_iload (pc1 := 101) dX6_answer_99 rfl rfl ?_
                  refine k_iload_n (pc1 := 102) dX6_answer_101 rfl rfl ?_
                  by_cases hK0 : 0 ≤ ko3 f (atF f n)
                  · skip
                    refine k_callVM (c' := 4) (wm' := (-1)) (wd' := (-1)) (f' := (rfF f 3 (ko3 f (atF f n)))) (v := .int (iI 1)) dX6_answer_102 rfl lk_RX6_105 o_X6_isKeptOut hM134 (w_X6_isKeptOutT hl hM134 hW ⟨by omega, by omega⟩ ⟨by omega, by omega⟩ hK0) (as := [.int (iI (atF f n)), .int (iI p)]) rfl rfl rfl (by decide) (by decide) (k8 rfl) (fun h137 hM137 hX137 => ?_)
                    have hF137 := kFm_tr hF134 hX137
                    refine k_if_eq (a := 1) dX6_answer_105 rfl (tgt := 111) rfl (by decide) (fun c => absurd c (by decide)) (fun _ => ?_)
                    refine k_bipush 32 (pc1 := 110) dX6_answer_108 rfl (by decide) ?_
                    exact k_iret dX6_answer_110 rfl (kn_c (by omega) (by omega)) (kMt_mk (c1 := 4) (v1 := 32) (f1 := (rfF f 3 (ko3 f (atF f n)))) (by unfold Tanswer; first | exact kI_t (by omega) | (rw [kI_f (by omega)]; first | exact kI_f (by omega) | (rw [kI_t (by omega)]; first | exact kI_t (by omega) | (rw [kI_f (by omega)]; first | exact kI_t (by omega) | (rw [kI_f (by omega)]; first | exact kI_t (by omega) | exact kI_f (by omega)))))) hM137 hF137)
                  · skip
                    by_cases hK1 : 0 ≤ ko4 f (atF f n) p
                    · skip
                      refine k_callVM (c' := 4) (wm' := (-1)) (wd' := (-1)) (f' := (rfF f 4 (ko4 f (atF f n) p))) (v := .int (iI 1)) dX6_answer_102 rfl lk_RX6_105 o_X6_isKeptOut hM134 (w_X6_isKeptOutU hl hM134 hW ⟨by omega, by omega⟩ ⟨by omega, by omega⟩ ⟨hK0, hK1⟩) (as := [.int (iI (atF f n)), .int (iI p)]) rfl rfl rfl (by decide) (by decide) (k8 rfl) (fun h138 hM138 hX138 => ?_)
                      have hF138 := kFm_tr hF134 hX138
                      refine k_if_eq (a := 1) dX6_answer_105 rfl (tgt := 111) rfl (by decide) (fun c => absurd c (by decide)) (fun _ => ?_)
                      refine k_bipush 32 (pc1 := 110) dX6_answer_108 rfl (by decide) ?_
                      exact k_iret dX6_answer_110 rfl (kn_c (by omega) (by omega)) (kMt_mk (c1 := 4) (v1 := 32) (f1 := (rfF f 4 (ko4 f (atF f n) p))) (by unfold Tanswer; first | exact kI_t (by omega) | (rw [kI_f (by omega)]; first | exact kI_f (by omega) | (rw [kI_t (by omega)]; first | exact kI_t (by omega) | (rw [kI_f (by omega)]; first | exact kI_t (by omega) | (rw [kI_f (by omega)]; first | exact kI_t (by omega) | exact kI_f (by omega)))))) hM138 hF138)
                    · skip
                      refine k_callVM (c' := 0) (wm' := (-1)) (wd' := (-1)) (f' := f) (v := .int (iI 0)) dX6_answer_102 rfl lk_RX6_105 o_X6_isKeptOut hM134 (w_X6_isKeptOutF hl hM134 hW ⟨by omega, by omega⟩ ⟨by omega, by omega⟩ ⟨hK0, hK1⟩) (as := [.int (iI (atF f n)), .int (iI p)]) rfl rfl rfl (by decide) (by decide) (k8 rfl) (fun h139 hM139 hX139 => ?_)
                      have hF139 := kFm_tr hF134 hX139
                      refine k_if_eq (a := 0) dX6_answer_105 rfl (tgt := 111) rfl (by decide) (fun _ => ?_) (fun c => absurd c (by decide))
                      refine k_aload_n (pc1 := 112) dX6_answer_111 rfl rfl ?_
                      refine k_iload (pc1 := 114) dX6_answer_112 rfl rfl ?_
                      refine k_iconst (pc1 := 115) dX6_answer_114 rfl ?_
                      refine k_iload_n (pc1 := 116) dX6_answer_115 rfl rfl ?_
                      refine k_iadd (a := 4) (b := p) (pc1 := 117) dX6_answer_116 rfl ?_
                      refine k_iload_n (pc1 := 118) dX6_answer_117 rfl rfl ?_
                      refine k_callVMn (c' := 0) (wm' := (-1)) (wd' := (-1)) (f' := (lyF f (atF f n) (4 + p) a)) dX6_answer_118 rfl lk_RX6_70 o_X6_lays hM139 (w_X6_lays hl hM139 (atF f n) (4 + p) a (by omega) (by omega)) (as := [.int (iI (atF f n)), .int (iI (4 + p)), .int (iI a)]) rfl rfl rfl (by decide) (by decide) (k8 rfl) (fun h140 hM140 hX140 => ?_)
                      have hF140 := kFm_tr hF139 hX140
                      refine k_iload (pc1 := 123) dX6_answer_121 rfl rfl ?_
                      refine k_i2c (pc1 := 124) dX6_answer_123 rfl (k_val (v' := .int (iI (oF f (atF f n) (4 + p)))) (congrArg Value.int (iI_i2c (by omega) (by omega))) ?_)
                      exact k_iret dX6_answer_124 rfl (kn_c (by omega) (by omega)) (kMt_mk (c1 := 0) (v1 := (oF f (atF f n) (4 + p))) (f1 := (lyF f (atF f n) (4 + p) a)) (by unfold Tanswer; first | exact kI_t (by omega) | (rw [kI_f (by omega)]; first | exact kI_f (by omega) | (rw [kI_t (by omega)]; first | exact kI_t (by omega) | (rw [kI_f (by omega)]; first | exact kI_t (by omega) | (rw [kI_f (by omega)]; first | exact kI_t (by omega) | exact kI_f (by omega)))))) hM140 hF140)
            · skip
              refine k_iconst (pc1 := 61) dX6_answer_60 rfl ?_
              refine k_goto dX6_answer_61 (tgt := 65) rfl ?_
              refine k_callVM (c' := 3) (wm' := (-1)) (wd' := (-1)) (f' := f) (v := .int (iI 1)) dX6_answer_65 rfl lk_RX6_34 o_X6_fails hM (w_X6_failsT hl hM (by decide)) (as := [.int (iI 3)]) rfl rfl rfl (by decide) (by decide) (k8 rfl) (fun h141 hM141 hX141 => ?_)
              have hF141 := kFm_tr (kFm_rf o g r h) hX141
              refine k_if_eq (a := 1) dX6_answer_68 rfl (tgt := 74) rfl (by decide) (fun c => absurd c (by decide)) (fun _ => ?_)
              refine k_bipush 32 (pc1 := 73) dX6_answer_71 rfl (by decide) ?_
              exact k_iret dX6_answer_73 rfl (kn_c (by omega) (by omega)) (kMt_mk (c1 := 3) (v1 := 32) (f1 := f) (by unfold Tanswer; first | exact kI_t (by omega) | (rw [kI_f (by omega)]; first | exact kI_f (by omega) | (rw [kI_t (by omega)]; first | exact kI_t (by omega) | (rw [kI_f (by omega)]; first | exact kI_t (by omega) | (rw [kI_f (by omega)]; first | exact kI_t (by omega) | exact kI_f (by omega)))))) hM141 hF141)
          · skip
            refine k_iconst (pc1 := 43) dX6_answer_42 rfl ?_
            refine k_goto dX6_answer_43 (tgt := 65) rfl ?_
            refine k_callVM (c' := 2) (wm' := (-1)) (wd' := (-1)) (f' := f) (v := .int (iI 1)) dX6_answer_65 rfl lk_RX6_34 o_X6_fails hM (w_X6_failsT hl hM (by decide)) (as := [.int (iI 2)]) rfl rfl rfl (by decide) (by decide) (k8 rfl) (fun h142 hM142 hX142 => ?_)
            have hF142 := kFm_tr (kFm_rf o g r h) hX142
            refine k_if_eq (a := 1) dX6_answer_68 rfl (tgt := 74) rfl (by decide) (fun c => absurd c (by decide)) (fun _ => ?_)
            refine k_bipush 32 (pc1 := 73) dX6_answer_71 rfl (by decide) ?_
            exact k_iret dX6_answer_73 rfl (kn_c (by omega) (by omega)) (kMt_mk (c1 := 2) (v1 := 32) (f1 := f) (by unfold Tanswer; first | exact kI_t (by omega) | (rw [kI_f (by omega)]; first | exact kI_f (by omega) | (rw [kI_t (by omega)]; first | exact kI_t (by omega) | (rw [kI_f (by omega)]; first | exact kI_t (by omega) | (rw [kI_f (by omega)]; first | exact kI_t (by omega) | exact kI_f (by omega)))))) hM142 hF142)
  · skip
    refine k_iconst (pc1 := 14) dX6_answer_13 rfl ?_
    refine k_goto dX6_answer_14 (tgt := 65) rfl ?_
    refine k_callVM (c' := 1) (wm' := (-1)) (wd' := (-1)) (f' := f) (v := .int (iI 1)) dX6_answer_65 rfl lk_RX6_34 o_X6_fails hM (w_X6_failsT hl hM (by decide)) (as := [.int (iI 1)]) rfl rfl rfl (by decide) (by decide) (k8 rfl) (fun h143 hM143 hX143 => ?_)
    have hF143 := kFm_tr (kFm_rf o g r h) hX143
    refine k_if_eq (a := 1) dX6_answer_68 rfl (tgt := 74) rfl (by decide) (fun c => absurd c (by decide)) (fun _ => ?_)
    refine k_bipush 32 (pc1 := 73) dX6_answer_71 rfl (by decide) ?_
    exact k_iret dX6_answer_73 rfl (kn_c (by omega) (by omega)) (kMt_mk (c1 := 1) (v1 := 32) (f1 := f) (by unfold Tanswer; first | exact kI_t (by omega) | (rw [kI_f (by omega)]; first | exact kI_f (by omega) | (rw [kI_t (by omega)]; first | exact kI_t (by omega) | (rw [kI_f (by omega)]; first | exact kI_t (by omega) | (rw [kI_f (by omega)]; first | exact kI_t (by omega) | exact kI_f (by omega)))))) hM143 hF143)
theorem w_X6_isOnR {l : Launch} {G : kG} {h : kAH} {o g r : Nat} {c wm wd : Int} {f : Nat → Int} (hl : l.stackTraces = false) (hM : kMd G h o g r c wm wd f) (m dt : Int) (h0 : 0 ≤ 20 + 40 * m + (10 + 4 * dt + 2)) (h1 : 20 + 40 * m + (10 + 4 * dt + 2) < 380) (h2 : -10 ≤ dF f m dt 2 ∧ dF f m dt 2 ≤ 10) : kP l G m_X6_isOn 3 [.ref o, .int (iI m), .int (iI dt)] h (.int (iI (kB (onF f m dt)))) := by
  refine kC_of hl rfl rfl (Nat.le_of_ble_eq_true rfl) (L := [some (.ref o), some (.int (iI m)), some (.int (iI dt))]) rfl ?_
  refine k_aload_n (pc1 := 1) dX6_isOn_0 rfl rfl ?_
  refine k_iload_n (pc1 := 2) dX6_isOn_1 rfl rfl ?_
  refine k_iload_n (pc1 := 3) dX6_isOn_2 rfl rfl ?_
  refine k_iconst (pc1 := 4) dX6_isOn_3 rfl ?_
  refine k_callVP dX6_isOn_4 rfl lk_RX6_45 o_X6_date (w_X6_date hl hM m dt 2 (by omega) (by omega)) (as := [.int (iI m), .int (iI dt), .int (iI 2)]) hM.1 rfl rfl rfl rfl (by decide) (by decide) (k8 rfl) ?_
  refine k_if_ne (a := (dF f m dt 2)) dX6_isOn_7 rfl (tgt := 14) rfl (by omega) (fun c7 : (dF f m dt 2) ≠ 0 => ?_) (fun c7 : (dF f m dt 2) = 0 => ?_)
  · skip
    refine k_iconst (pc1 := 15) dX6_isOn_14 rfl ?_
    exact k_iret dX6_isOn_15 rfl rfl (kret (kB_f (by unfold onF; omega)).symm _)
  · skip
    refine k_iconst (pc1 := 11) dX6_isOn_10 rfl ?_
    refine k_goto dX6_isOn_11 (tgt := 15) rfl ?_
    exact k_iret dX6_isOn_15 rfl rfl (kret (kB_t (by unfold onF; omega)).symm _)
theorem w_X6_cancel {l : Launch} {G : kG} {h : kAH} {o g r : Nat} {c : Int} {f : Nat → Int} (hl : l.stackTraces = false) (hM : kMd G h o g r c (-1) (-1) f) (hW : kWf f) (n dd : Int) (rn : -2147483648 ≤ n ∧ n < 2147483648) (rdd : -2147483648 ≤ dd ∧ dd < 2147483648) : kC l G m_X6_cancel 5 0 0 [.ref o, .int (iI n), .int (iI dd)] h (kMt G o g r (Tcancel f n dd) h) kNo := by
  have hwm : -1 ≤ (-1 : Int) ∧ (-1 : Int) < 8 := by decide
  have hwd : -1 ≤ (-1 : Int) ∧ (-1 : Int) < 6 := by decide
  have h8 := kWf_cnt hW
  have h9 := kWf_nxt hW
  have hat := atF_r (n := n) h8.1
  refine kC_of hl rfl rfl (Nat.le_of_ble_eq_true rfl) (L := [some (.ref o), some (.int (iI n)), some (.int (iI dd)), none, none, none]) rfl ?_
  refine k_aload_n (pc1 := 1) dX6_cancel_0 rfl rfl ?_
  refine k_iload_n (pc1 := 2) dX6_cancel_1 rfl rfl ?_
  refine k_iload_n (pc1 := 3) dX6_cancel_2 rfl rfl ?_
  by_cases hN0 : atF f n < 0
  · skip
    refine k_callVM (c' := 1) (wm' := (-1)) (wd' := (-1)) (f' := f) (v := .int (iI 1)) dX6_cancel_3 rfl lk_RX6_108 o_X6_isNoDate hM (w_X6_isNoDateT hl hM hW (by omega) (by omega) hN0) (as := [.int (iI n), .int (iI dd)]) rfl rfl rfl (by decide) (by decide) (k8 rfl) (fun h144 hM144 hX144 => ?_)
    have hF144 := kFm_tr (kFm_rf o g r h) hX144
    refine k_if_ne (a := 1) dX6_cancel_6 rfl (tgt := 34) rfl (by decide) (fun _ => ?_) (fun c => absurd c (by decide))
    refine k_iconst (pc1 := 35) dX6_cancel_34 rfl ?_
    exact k_iret dX6_cancel_35 rfl rfl (kMt_mk (c1 := 1) (v1 := 0) (f1 := f) (by unfold Tcancel; first | exact kI_t (by omega) | exact (kI_f (by omega)).trans (kI_f (by omega)) | (rw [kI_f (by omega), kI_t (by omega)]; first | rw [kI_t (by assumption)] | rw [kI_f (by assumption)])) hM144 hF144)
  · skip
    by_cases hN1 : 0 ≤ dd ∧ dd < oF f (atF f n) 3
    · skip
      refine k_callVM (c' := 0) (wm' := (-1)) (wd' := (-1)) (f' := f) (v := .int (iI 0)) dX6_cancel_3 rfl lk_RX6_108 o_X6_isNoDate hM (w_X6_isNoDateF hl hM hW (by omega) (by omega) ⟨hN0, hN1⟩) (as := [.int (iI n), .int (iI dd)]) rfl rfl rfl (by decide) (by decide) (k8 rfl) (fun h145 hM145 hX145 => ?_)
      have hF145 := kFm_tr (kFm_rf o g r h) hX145
      have hmm := kWf_m hW (m := atF f n) (by omega) (by omega)
      have hdd := kWf_d hW (m := atF f n) (d := dd) (by omega) (by omega) hN1.1 hN1.2
      refine k_if_ne (a := 0) dX6_cancel_6 rfl (tgt := 34) rfl (by decide) (fun c => absurd c (by decide)) (fun _ => ?_)
      refine k_aload_n (pc1 := 10) dX6_cancel_9 rfl rfl ?_
      refine k_aload_n (pc1 := 11) dX6_cancel_10 rfl rfl ?_
      refine k_aload_n (pc1 := 12) dX6_cancel_11 rfl rfl ?_
      refine k_iload_n (pc1 := 13) dX6_cancel_12 rfl rfl ?_
      refine k_callVP dX6_cancel_13 rfl lk_RX6_96 o_X6_at (w_X6_at hl hM145 n hW (by omega)) (as := [.int (iI n)]) hM145.1 rfl rfl rfl rfl (by decide) (by decide) (k8 rfl) ?_
      refine k_iload_n (pc1 := 17) dX6_cancel_16 rfl rfl ?_
      refine k_callVP dX6_cancel_17 rfl lk_RX6_49 o_X6_isOn (w_X6_isOn hl hM145 (atF f n) dd hW ⟨by omega, by omega, by omega, by omega⟩) (as := [.int (iI (atF f n)), .int (iI dd)]) hM145.1 rfl rfl rfl rfl (by decide) (by decide) (k8 rfl) ?_
      refine k_if_eq (a := kB (onF f (atF f n) dd)) dX6_cancel_20 rfl (tgt := 27) rfl (kB_r _) (fun c20 : kB (onF f (atF f n) dd) = 0 => ?_) (fun c20 : kB (onF f (atF f n) dd) ≠ 0 => ?_)
      · replace c20 : ¬(onF f (atF f n) dd) := kB_z.mp c20
        refine k_iconst (pc1 := 28) dX6_cancel_27 rfl ?_
        refine k_callVM (c' := 3) (wm' := (-1)) (wd' := (-1)) (f' := f) (v := .int (iI 1)) dX6_cancel_28 rfl lk_RX6_34 o_X6_fails hM145 (w_X6_failsT hl hM145 (by decide)) (as := [.int (iI 3)]) rfl rfl rfl (by decide) (by decide) (k8 rfl) (fun h146 hM146 hX146 => ?_)
        have hF146 := kFm_tr hF145 hX146
        refine k_if_eq (a := 1) dX6_cancel_31 rfl (tgt := 36) rfl (by decide) (fun c => absurd c (by decide)) (fun _ => ?_)
        refine k_iconst (pc1 := 35) dX6_cancel_34 rfl ?_
        exact k_iret dX6_cancel_35 rfl rfl (kMt_mk (c1 := 3) (v1 := 0) (f1 := f) (by unfold Tcancel; first | exact kI_t (by omega) | exact (kI_f (by omega)).trans (kI_f (by omega)) | (rw [kI_f (by omega), kI_t (by omega)]; first | rw [kI_t (by assumption)] | rw [kI_f (by assumption)])) hM146 hF146)
      · replace c20 : (onF f (atF f n) dd) := kB_nz.mp c20
        refine k_iconst (pc1 := 24) dX6_cancel_23 rfl ?_
        refine k_goto dX6_cancel_24 (tgt := 28) rfl ?_
        refine k_callVM (c' := 0) (wm' := (-1)) (wd' := (-1)) (f' := f) (v := .int (iI 0)) dX6_cancel_28 rfl lk_RX6_34 o_X6_fails hM145 (w_X6_failsF hl hM145) (as := [.int (iI 0)]) rfl rfl rfl (by decide) (by decide) (k8 rfl) (fun h147 hM147 hX147 => ?_)
        have hF147 := kFm_tr hF145 hX147
        refine k_if_eq (a := 0) dX6_cancel_31 rfl (tgt := 36) rfl (by decide) (fun _ => ?_) (fun c => absurd c (by decide))
        refine k_aload_n (pc1 := 37) dX6_cancel_36 rfl rfl ?_
        refine k_iload_n (pc1 := 38) dX6_cancel_37 rfl rfl ?_
        refine k_callVP dX6_cancel_38 rfl lk_RX6_96 o_X6_at (w_X6_at hl hM147 n hW (by omega)) (as := [.int (iI n)]) hM147.1 rfl rfl rfl rfl (by decide) (by decide) (k8 rfl) ?_
        refine k_istore_n (pc1 := 42) dX6_cancel_41 rfl (by decide) (k_loc (L' := [some (.ref o), some (.int (iI n)), some (.int (iI dd)), some (.int (iI (atF f n))), none, none]) rfl ?_)
        refine k_aload_n (pc1 := 43) dX6_cancel_42 rfl rfl ?_
        refine k_iload_n (pc1 := 44) dX6_cancel_43 rfl rfl ?_
        refine k_bipush 10 (pc1 := 46) dX6_cancel_44 rfl (by decide) ?_
        refine k_iconst (pc1 := 47) dX6_cancel_46 rfl ?_
        refine k_iload_n (pc1 := 48) dX6_cancel_47 rfl rfl ?_
        refine k_imul (a := 4) (b := dd) (pc1 := 49) dX6_cancel_48 rfl ?_
        refine k_iadd (a := 10) (b := (4 * dd)) (pc1 := 50) dX6_cancel_49 rfl ?_
        refine k_iconst (pc1 := 51) dX6_cancel_50 rfl ?_
        refine k_iadd (a := (10 + (4 * dd))) (b := 2) (pc1 := 52) dX6_cancel_51 rfl ?_
        refine k_iconst (pc1 := 53) dX6_cancel_52 rfl ?_
        refine k_callVMn (c' := 0) (wm' := (-1)) (wd' := (-1)) (f' := (lyF f (atF f n) ((10 + (4 * dd)) + 2) 1)) dX6_cancel_53 rfl lk_RX6_70 o_X6_lays hM147 (w_X6_lays hl hM147 (atF f n) ((10 + (4 * dd)) + 2) 1 (by omega) (by omega)) (as := [.int (iI (atF f n)), .int (iI ((10 + (4 * dd)) + 2)), .int (iI 1)]) rfl rfl rfl (by decide) (by decide) (k8 rfl) (fun h148 hM148 hX148 => ?_)
        have hF148 := kFm_tr hF147 hX148
        refine k_iconst (pc1 := 57) dX6_cancel_56 rfl ?_
        refine k_istore (pc1 := 59) dX6_cancel_57 rfl (by decide) (k_loc (L' := [some (.ref o), some (.int (iI n)), some (.int (iI dd)), some (.int (iI (atF f n))), some (.int (iI 0)), none]) rfl ?_)
        have hc3 : oF (lyF f (atF f n) ((10 + (4 * dd)) + 2) 1) (atF f n) 3 = oF f (atF f n) 3 := by rw [oF_ly (by omega) (by omega) (by omega) (by omega), if_neg (by omega)]
        refine k_iconst (pc1 := 60) dX6_cancel_59 rfl ?_
        refine k_istore (pc1 := 62) dX6_cancel_60 rfl (by decide) (k_loc (L' := [some (.ref o), some (.int (iI n)), some (.int (iI dd)), some (.int (iI (atF f n))), some (.int (iI 0)), some (.int (iI 0))]) rfl ?_)
        have hloop62 : ∀ (zz : Nat) (i : Nat), zz = (oF f (atF f n) 3 - ((i : Nat) : Int)).toNat → (((i : Nat) : Int) ≤ oF f (atF f n) 3) → kW l G m_X6_cancel 5 (kMt G o g r (Tcancel f n dd) h) kNo 0 0 62 [some (.ref o), some (.int (iI n)), some (.int (iI dd)), some (.int (iI (atF f n))), some (.int (iI (ksm (fun d => kB (onF (lyF f (atF f n) ((10 + (4 * dd)) + 2) 1) (atF f n) (d : Int))) i))), some (.int (iI ((i : Nat) : Int)))] [] h148 := by
          intro zz
          induction zz using Nat.strongRecOn with
          | ind zz ih62 =>
          intro i hr62 hi
          refine k_iload (pc1 := 64) dX6_cancel_62 rfl rfl ?_
          refine k_aload_n (pc1 := 65) dX6_cancel_64 rfl rfl ?_
          refine k_iload_n (pc1 := 66) dX6_cancel_65 rfl rfl ?_
          refine k_iconst (pc1 := 67) dX6_cancel_66 rfl ?_
          refine k_callVP dX6_cancel_67 rfl lk_RX6_37 o_X6_of (w_X6_of hl hM148 (atF f n) 3 (by omega) (by omega)) (as := [.int (iI (atF f n)), .int (iI 3)]) hM148.1 rfl rfl rfl rfl (by decide) (by decide) (k8 rfl) ?_
          refine k_icmp_ge (a := ((i : Nat) : Int)) (b := (oF (lyF f (atF f n) ((10 + (4 * dd)) + 2) 1) (atF f n) 3)) dX6_cancel_70 rfl (tgt := 99) rfl (by omega) (by omega) (fun c70 : (oF (lyF f (atF f n) ((10 + (4 * dd)) + 2) 1) (atF f n) 3) ≤ ((i : Nat) : Int) => ?_) (fun c70 : ((i : Nat) : Int) < (oF (lyF f (atF f n) ((10 + (4 * dd)) + 2) 1) (atF f n) 3) => ?_)
          · skip
            refine k_iload (pc1 := 101) dX6_cancel_99 rfl rfl ?_
            exact k_iret dX6_cancel_101 rfl rfl (kMt_mk (c1 := 0) (v1 := (ksm (fun d => kB (onF (lyF f (atF f n) ((10 + (4 * dd)) + 2) 1) (atF f n) (d : Int))) i)) (f1 := (lyF f (atF f n) ((10 + (4 * dd)) + 2) 1)) (by unfold Tcancel sdF; have e : (oF (lyF f (atF f n) ((10 + (4 * dd)) + 2) 1) (atF f n) 3).toNat = i := (by omega); rw [kI_f (by omega), kI_t (by omega), kI_t (by assumption), e]) hM148 hF148)
          · skip
            have hdi := kWf_d hW (m := atF f n) (d := ((i : Nat) : Int)) (by omega) (by omega) (by omega) (by omega)
            have hc2 : dF (lyF f (atF f n) ((10 + (4 * dd)) + 2) 1) (atF f n) ((i : Nat) : Int) 2 = if atF f n = atF f n ∧ (10 + 4 * ((i : Nat) : Int) + 2) = (10 + 4 * dd) + 2 then 1 else dF f (atF f n) ((i : Nat) : Int) 2 := oF_ly (by omega) (by omega) (by omega) (by omega)
            have hc4 : -10 ≤ dF (lyF f (atF f n) ((10 + (4 * dd)) + 2) 1) (atF f n) ((i : Nat) : Int) 2 ∧ dF (lyF f (atF f n) ((10 + (4 * dd)) + 2) 1) (atF f n) ((i : Nat) : Int) 2 ≤ 10 := by rw [hc2]; split <;> omega
            clear hc2
            refine k_iload (pc1 := 75) dX6_cancel_73 rfl rfl ?_
            refine k_aload_n (pc1 := 76) dX6_cancel_75 rfl rfl ?_
            refine k_iload_n (pc1 := 77) dX6_cancel_76 rfl rfl ?_
            refine k_iload (pc1 := 79) dX6_cancel_77 rfl rfl ?_
            refine k_callVP dX6_cancel_79 rfl lk_RX6_49 o_X6_isOn (w_X6_isOnR hl hM148 (atF f n) ((i : Nat) : Int) (by omega) (by omega) (by omega)) (as := [.int (iI (atF f n)), .int (iI ((i : Nat) : Int))]) hM148.1 rfl rfl rfl rfl (by decide) (by decide) (k8 rfl) ?_
            refine k_if_eq (a := kB (onF (lyF f (atF f n) ((10 + (4 * dd)) + 2) 1) (atF f n) ((i : Nat) : Int))) dX6_cancel_82 rfl (tgt := 89) rfl (kB_r _) (fun c82 : kB (onF (lyF f (atF f n) ((10 + (4 * dd)) + 2) 1) (atF f n) ((i : Nat) : Int)) = 0 => ?_) (fun c82 : kB (onF (lyF f (atF f n) ((10 + (4 * dd)) + 2) 1) (atF f n) ((i : Nat) : Int)) ≠ 0 => ?_)
            · replace c82 : ¬(onF (lyF f (atF f n) ((10 + (4 * dd)) + 2) 1) (atF f n) ((i : Nat) : Int)) := kB_z.mp c82
              refine k_iconst (pc1 := 90) dX6_cancel_89 rfl ?_
              refine k_iadd (a := (ksm (fun d => kB (onF (lyF f (atF f n) ((10 + (4 * dd)) + 2) 1) (atF f n) (d : Int))) i)) (b := 0) (pc1 := 91) dX6_cancel_90 rfl ?_
              refine k_istore (pc1 := 93) dX6_cancel_91 rfl (by decide) (k_loc (L' := [some (.ref o), some (.int (iI n)), some (.int (iI dd)), some (.int (iI (atF f n))), some (.int (iI ((ksm (fun d => kB (onF (lyF f (atF f n) ((10 + (4 * dd)) + 2) 1) (atF f n) (d : Int))) i) + 0))), some (.int (iI ((i : Nat) : Int)))]) rfl ?_)
              refine k_iinc (a := ((i : Nat) : Int)) (pc1 := 96) dX6_cancel_93 rfl rfl (by decide) (k_loc (L' := [some (.ref o), some (.int (iI n)), some (.int (iI dd)), some (.int (iI (atF f n))), some (.int (iI ((ksm (fun d => kB (onF (lyF f (atF f n) ((10 + (4 * dd)) + 2) 1) (atF f n) (d : Int))) i) + 0))), some (.int (iI (((i : Nat) : Int) + 1)))]) rfl ?_)
              refine k_goto dX6_cancel_96 (tgt := 62) rfl ?_
              have e : (ksm (fun d => kB (onF (lyF f (atF f n) ((10 + (4 * dd)) + 2) 1) (atF f n) (d : Int))) (i + 1)) = ((ksm (fun d => kB (onF (lyF f (atF f n) ((10 + (4 * dd)) + 2) 1) (atF f n) (d : Int))) i) + 0) := congrArg (fun z => (ksm (fun d => kB (onF (lyF f (atF f n) ((10 + (4 * dd)) + 2) 1) (atF f n) (d : Int))) i) + z) (kB_f c82)
              refine k_loc (L' := [some (.ref o), some (.int (iI n)), some (.int (iI dd)), some (.int (iI (atF f n))), some (.int (iI (ksm (fun d => kB (onF (lyF f (atF f n) ((10 + (4 * dd)) + 2) 1) (atF f n) (d : Int))) (i + 1)))), some (.int (iI (((i : Nat) : Int) + 1)))]) (by rw [e]) ?_
              exact ih62 _ (by omega) (i + 1) rfl (by omega)
            · replace c82 : (onF (lyF f (atF f n) ((10 + (4 * dd)) + 2) 1) (atF f n) ((i : Nat) : Int)) := kB_nz.mp c82
              refine k_iconst (pc1 := 86) dX6_cancel_85 rfl ?_
              refine k_goto dX6_cancel_86 (tgt := 90) rfl ?_
              refine k_iadd (a := (ksm (fun d => kB (onF (lyF f (atF f n) ((10 + (4 * dd)) + 2) 1) (atF f n) (d : Int))) i)) (b := 1) (pc1 := 91) dX6_cancel_90 rfl ?_
              refine k_istore (pc1 := 93) dX6_cancel_91 rfl (by decide) (k_loc (L' := [some (.ref o), some (.int (iI n)), some (.int (iI dd)), some (.int (iI (atF f n))), some (.int (iI ((ksm (fun d => kB (onF (lyF f (atF f n) ((10 + (4 * dd)) + 2) 1) (atF f n) (d : Int))) i) + 1))), some (.int (iI ((i : Nat) : Int)))]) rfl ?_)
              refine k_iinc (a := ((i : Nat) : Int)) (pc1 := 96) dX6_cancel_93 rfl rfl (by decide) (k_loc (L' := [some (.ref o), some (.int (iI n)), some (.int (iI dd)), some (.int (iI (atF f n))), some (.int (iI ((ksm (fun d => kB (onF (lyF f (atF f n) ((10 + (4 * dd)) + 2) 1) (atF f n) (d : Int))) i) + 1))), some (.int (iI (((i : Nat) : Int) + 1)))]) rfl ?_)
              refine k_goto dX6_cancel_96 (tgt := 62) rfl ?_
              have e : (ksm (fun d => kB (onF (lyF f (atF f n) ((10 + (4 * dd)) + 2) 1) (atF f n) (d : Int))) (i + 1)) = ((ksm (fun d => kB (onF (lyF f (atF f n) ((10 + (4 * dd)) + 2) 1) (atF f n) (d : Int))) i) + 1) := congrArg (fun z => (ksm (fun d => kB (onF (lyF f (atF f n) ((10 + (4 * dd)) + 2) 1) (atF f n) (d : Int))) i) + z) (kB_t c82)
              refine k_loc (L' := [some (.ref o), some (.int (iI n)), some (.int (iI dd)), some (.int (iI (atF f n))), some (.int (iI (ksm (fun d => kB (onF (lyF f (atF f n) ((10 + (4 * dd)) + 2) 1) (atF f n) (d : Int))) (i + 1)))), some (.int (iI (((i : Nat) : Int) + 1)))]) (by rw [e]) ?_
              exact ih62 _ (by omega) (i + 1) rfl (by omega)
        exact hloop62 _ 0 rfl (by omega)
    · skip
      refine k_callVM (c' := 2) (wm' := (-1)) (wd' := (-1)) (f' := f) (v := .int (iI 1)) dX6_cancel_3 rfl lk_RX6_108 o_X6_isNoDate hM (w_X6_isNoDateU hl hM hW (by omega) (by omega) ⟨hN0, hN1⟩) (as := [.int (iI n), .int (iI dd)]) rfl rfl rfl (by decide) (by decide) (k8 rfl) (fun h149 hM149 hX149 => ?_)
      have hF149 := kFm_tr (kFm_rf o g r h) hX149
      refine k_if_ne (a := 1) dX6_cancel_6 rfl (tgt := 34) rfl (by decide) (fun _ => ?_) (fun c => absurd c (by decide))
      refine k_iconst (pc1 := 35) dX6_cancel_34 rfl ?_
      exact k_iret dX6_cancel_35 rfl rfl (kMt_mk (c1 := 2) (v1 := 0) (f1 := f) (by unfold Tcancel; first | exact kI_t (by omega) | exact (kI_f (by omega)).trans (kI_f (by omega)) | (rw [kI_f (by omega), kI_t (by omega)]; first | rw [kI_t (by assumption)] | rw [kI_f (by assumption)])) hM149 hF149)
theorem w_X6_remove {l : Launch} {G : kG} {h : kAH} {o g r : Nat} {c : Int} {f : Nat → Int} (hl : l.stackTraces = false) (hM : kMd G h o g r c (-1) (-1) f) (hW : kWf f) (n : Int) (rn : -2147483648 ≤ n ∧ n < 2147483648) : kC l G m_X6_remove 4 0 0 [.ref o, .int (iI n)] h (kMt G o g r (Tremove f n) h) kNo := by
  have hwm : -1 ≤ (-1 : Int) ∧ (-1 : Int) < 8 := by decide
  have hwd : -1 ≤ (-1 : Int) ∧ (-1 : Int) < 6 := by decide
  have h8 := kWf_cnt hW
  have h9 := kWf_nxt hW
  have hat := atF_r (n := n) h8.1
  refine kC_of hl rfl rfl (Nat.le_of_ble_eq_true rfl) (L := [some (.ref o), some (.int (iI n)), none, none]) rfl ?_
  refine k_aload_n (pc1 := 1) dX6_remove_0 rfl rfl ?_
  refine k_iload_n (pc1 := 2) dX6_remove_1 rfl rfl ?_
  by_cases hN0 : atF f n < 0
  · skip
    refine k_callVM (c' := 1) (wm' := (-1)) (wd' := (-1)) (f' := f) (v := .int (iI 1)) dX6_remove_2 rfl lk_RX6_99 o_X6_isNone hM (w_X6_isNoneT hl hM hW (by omega) hN0) (as := [.int (iI n)]) rfl rfl rfl (by decide) (by decide) (k8 rfl) (fun h150 hM150 hX150 => ?_)
    have hF150 := kFm_tr (kFm_rf o g r h) hX150
    refine k_if_eq (a := 1) dX6_remove_5 rfl (tgt := 10) rfl (by decide) (fun c => absurd c (by decide)) (fun _ => ?_)
    refine k_iconst (pc1 := 9) dX6_remove_8 rfl ?_
    exact k_iret dX6_remove_9 rfl rfl (kMt_mk (c1 := 1) (v1 := 0) (f1 := f) (by exact kI_t (by omega)) hM150 hF150)
  · skip
    refine k_callVM (c' := 0) (wm' := (-1)) (wd' := (-1)) (f' := f) (v := .int (iI 0)) dX6_remove_2 rfl lk_RX6_99 o_X6_isNone hM (w_X6_isNoneF hl hM hW (by omega) hN0) (as := [.int (iI n)]) rfl rfl rfl (by decide) (by decide) (k8 rfl) (fun h151 hM151 hX151 => ?_)
    have hF151 := kFm_tr (kFm_rf o g r h) hX151
    refine k_if_eq (a := 0) dX6_remove_5 rfl (tgt := 10) rfl (by decide) (fun _ => ?_) (fun c => absurd c (by decide))
    refine k_bipush 20 (pc1 := 12) dX6_remove_10 rfl (by decide) ?_
    refine k_bipush 40 (pc1 := 14) dX6_remove_12 rfl (by decide) ?_
    refine k_aload_n (pc1 := 15) dX6_remove_14 rfl rfl ?_
    refine k_iload_n (pc1 := 16) dX6_remove_15 rfl rfl ?_
    refine k_callVP dX6_remove_16 rfl lk_RX6_96 o_X6_at (w_X6_at hl hM151 n hW (by omega)) (as := [.int (iI n)]) hM151.1 rfl rfl rfl rfl (by decide) (by decide) (k8 rfl) ?_
    refine k_imul (a := 40) (b := (atF f n)) (pc1 := 20) dX6_remove_19 rfl ?_
    refine k_iadd (a := 20) (b := (40 * (atF f n))) (pc1 := 21) dX6_remove_20 rfl ?_
    refine k_istore_n (pc1 := 22) dX6_remove_21 rfl (by decide) (k_loc (L' := [some (.ref o), some (.int (iI n)), some (.int (iI (20 + (40 * (atF f n))))), none]) rfl ?_)
    refine k_aload_n (pc1 := 23) dX6_remove_22 rfl rfl ?_
    refine k_get (pc1 := 26) dX6_remove_23 rfl fd_RX6_7 hM151.1 (v := .ref g) rfl ?_
    refine k_iconst (pc1 := 27) dX6_remove_26 rfl ?_
    refine k_dup2 (pc1 := 28) dX6_remove_27 rfl rfl rfl ?_
    refine k_iald (i := 1) (f := f) (pc1 := 29) dX6_remove_28 rfl hM151.2.1 (N := 380) (by omega) (by omega) (by decide) (k_val (v' := .int (iI (f 1))) rfl ?_)
    refine k_iconst (pc1 := 30) dX6_remove_29 rfl ?_
    refine k_isub (a := (f 1)) (b := 1) (pc1 := 31) dX6_remove_30 rfl ?_
    refine k_iastM (pc1 := 32) (i := 1) (x := ((f 1) - 1)) dX6_remove_31 rfl hM151 (by omega) (by omega) (fun h152 hM152 hX152 => ?_)
    have hF152 := kFm_tr hF151 hX152
    refine k_iload_n (pc1 := 33) dX6_remove_32 rfl rfl ?_
    refine k_istore_n (pc1 := 34) dX6_remove_33 rfl (by decide) (k_loc (L' := [some (.ref o), some (.int (iI n)), some (.int (iI (20 + (40 * (atF f n))))), some (.int (iI (20 + (40 * (atF f n)))))]) rfl ?_)
    have hloop34 : ∀ (zz : Nat) (i : Nat) (h5 : kAH), zz = (40 * (f 1 - 1 - (atF f n))).toNat - i → (i ≤ (40 * (f 1 - 1 - (atF f n))).toNat) → (kMd G h5 o g r 0 (-1) (-1) (shF (kiu f 1 (f 1 - 1)) (20 + 40 * (atF f n)).toNat i)) → (kFm o g r h h5) → kW l G m_X6_remove 4 (kMt G o g r (Tremove f n) h) kNo 0 0 34 [some (.ref o), some (.int (iI n)), some (.int (iI (20 + (40 * (atF f n))))), some (.int (iI ((20 + (40 * (atF f n))) + ((i : Nat) : Int))))] [] h5 := by
      intro zz
      induction zz using Nat.strongRecOn with
      | ind zz ih34 =>
      intro i h5 hr34 hi hM5 hF5
      have hg1 : (shF (kiu f 1 (f 1 - 1)) (20 + 40 * (atF f n)).toNat i) 1 = f 1 - 1 := (sh_lo (by omega)).trans ki_eq
      refine k_iload_n (pc1 := 35) dX6_remove_34 rfl rfl ?_
      refine k_bipush 20 (pc1 := 37) dX6_remove_35 rfl (by decide) ?_
      refine k_bipush 40 (pc1 := 39) dX6_remove_37 rfl (by decide) ?_
      refine k_aload_n (pc1 := 40) dX6_remove_39 rfl rfl ?_
      refine k_get (pc1 := 43) dX6_remove_40 rfl fd_RX6_7 hM5.1 (v := .ref g) rfl ?_
      refine k_iconst (pc1 := 44) dX6_remove_43 rfl ?_
      refine k_iald (i := 1) (f := (shF (kiu f 1 (f 1 - 1)) (20 + 40 * (atF f n)).toNat i)) (pc1 := 45) dX6_remove_44 rfl hM5.2.1 (N := 380) (by omega) (by omega) (by decide) (k_val (v' := .int (iI ((shF (kiu f 1 (f 1 - 1)) (20 + 40 * (atF f n)).toNat i) 1))) rfl ?_)
      refine k_imul (a := 40) (b := ((shF (kiu f 1 (f 1 - 1)) (20 + 40 * (atF f n)).toNat i) 1)) (pc1 := 46) dX6_remove_45 rfl ?_
      refine k_iadd (a := 20) (b := (40 * ((shF (kiu f 1 (f 1 - 1)) (20 + 40 * (atF f n)).toNat i) 1))) (pc1 := 47) dX6_remove_46 rfl ?_
      refine k_icmp_ge (a := ((20 + (40 * (atF f n))) + ((i : Nat) : Int))) (b := (20 + (40 * ((shF (kiu f 1 (f 1 - 1)) (20 + 40 * (atF f n)).toNat i) 1)))) dX6_remove_47 rfl (tgt := 71) rfl (by omega) (by omega) (fun c47 : (20 + (40 * ((shF (kiu f 1 (f 1 - 1)) (20 + 40 * (atF f n)).toNat i) 1))) ≤ ((20 + (40 * (atF f n))) + ((i : Nat) : Int)) => ?_) (fun c47 : ((20 + (40 * (atF f n))) + ((i : Nat) : Int)) < (20 + (40 * ((shF (kiu f 1 (f 1 - 1)) (20 + 40 * (atF f n)).toNat i) 1))) => ?_)
      · skip
        refine k_aload_n (pc1 := 72) dX6_remove_71 rfl rfl ?_
        refine k_get (pc1 := 75) dX6_remove_72 rfl fd_RX6_7 hM5.1 (v := .ref g) rfl ?_
        refine k_iconst (pc1 := 76) dX6_remove_75 rfl ?_
        refine k_iald (i := 1) (f := (shF (kiu f 1 (f 1 - 1)) (20 + 40 * (atF f n)).toNat i)) (pc1 := 77) dX6_remove_76 rfl hM5.2.1 (N := 380) (by omega) (by omega) (by decide) (k_val (v' := .int (iI ((shF (kiu f 1 (f 1 - 1)) (20 + 40 * (atF f n)).toNat i) 1))) rfl ?_)
        exact k_iret dX6_remove_77 rfl rfl (kMt_mk (c1 := 0) (v1 := ((shF (kiu f 1 (f 1 - 1)) (20 + 40 * (atF f n)).toNat i) 1)) (f1 := (shF (kiu f 1 (f 1 - 1)) (20 + 40 * (atF f n)).toNat i)) (by have e : i = (40 * (f 1 - 1 - (atF f n))).toNat := (by omega); subst e; unfold Tremove; rw [kI_f (by omega)]; exact Prod.ext rfl (Prod.ext hg1.symm rfl)) hM5 hF5)
      · skip
        refine k_aload_n (pc1 := 51) dX6_remove_50 rfl rfl ?_
        refine k_get (pc1 := 54) dX6_remove_51 rfl fd_RX6_7 hM5.1 (v := .ref g) rfl ?_
        refine k_iload_n (pc1 := 55) dX6_remove_54 rfl rfl ?_
        refine k_aload_n (pc1 := 56) dX6_remove_55 rfl rfl ?_
        refine k_get (pc1 := 59) dX6_remove_56 rfl fd_RX6_7 hM5.1 (v := .ref g) rfl ?_
        refine k_iload_n (pc1 := 60) dX6_remove_59 rfl rfl ?_
        refine k_bipush 40 (pc1 := 62) dX6_remove_60 rfl (by decide) ?_
        refine k_iadd (a := ((20 + (40 * (atF f n))) + ((i : Nat) : Int))) (b := 40) (pc1 := 63) dX6_remove_62 rfl ?_
        refine k_iald (i := (((20 + (40 * (atF f n))) + ((i : Nat) : Int)) + 40)) (f := (shF (kiu f 1 (f 1 - 1)) (20 + 40 * (atF f n)).toNat i)) (pc1 := 64) dX6_remove_63 rfl hM5.2.1 (N := 380) (by omega) (by omega) (by decide) (k_val (v' := .int (iI ((shF (kiu f 1 (f 1 - 1)) (20 + 40 * (atF f n)).toNat i) (((20 + (40 * (atF f n))) + ((i : Nat) : Int)) + 40).toNat))) rfl ?_)
        refine k_iastM (pc1 := 65) (i := ((20 + (40 * (atF f n))) + ((i : Nat) : Int))) (x := ((shF (kiu f 1 (f 1 - 1)) (20 + 40 * (atF f n)).toNat i) (((20 + (40 * (atF f n))) + ((i : Nat) : Int)) + 40).toNat)) dX6_remove_64 rfl hM5 (by omega) (by omega) (fun h153 hM153 hX153 => ?_)
        have hF153 := kFm_tr hF5 hX153
        refine k_iinc (a := ((20 + (40 * (atF f n))) + ((i : Nat) : Int))) (pc1 := 68) dX6_remove_65 rfl rfl (by decide) (k_loc (L' := [some (.ref o), some (.int (iI n)), some (.int (iI (20 + (40 * (atF f n))))), some (.int (iI (((20 + (40 * (atF f n))) + ((i : Nat) : Int)) + 1)))]) rfl ?_)
        refine k_goto dX6_remove_68 (tgt := 34) rfl ?_
        rw [sh_s (i := i) (by omega) (by omega)] at hM153
        refine k_loc (L' := [some (.ref o), some (.int (iI n)), some (.int (iI (20 + (40 * (atF f n))))), some (.int (iI ((20 + (40 * (atF f n))) + ((i + 1 : Nat) : Int))))]) (by rw [show (20 + (40 * (atF f n))) + ((i : Nat) : Int) + 1 = (20 + (40 * (atF f n))) + ((i + 1 : Nat) : Int) by omega]) ?_
        exact ih34 _ (by omega) (i + 1) h153 rfl (by omega) hM153 hF153
    refine k_loc (L' := [some (.ref o), some (.int (iI n)), some (.int (iI (20 + (40 * (atF f n))))), some (.int (iI ((20 + (40 * (atF f n))) + 0)))]) (by rw [Int.add_zero]) ?_
    exact hloop34 _ 0 h152 rfl (by omega) hM152 hF152
theorem w_X6_move {l : Launch} {G : kG} {h : kAH} {o g r : Nat} {c : Int} {f : Nat → Int} (hl : l.stackTraces = false) (hM : kMd G h o g r c (-1) (-1) f) (hW : kWf f) (n dd k t : Int) (rn : -2147483648 ≤ n ∧ n < 2147483648) (rdd : -2147483648 ≤ dd ∧ dd < 2147483648) (rk : -2147483648 ≤ k ∧ k < 2147483648) (rt : -2147483648 ≤ t ∧ t < 2147483648) : kC l G m_X6_move 7 0 0 [.ref o, .int (iI n), .int (iI dd), .int (iI k), .int (iI t)] h (kMt G o g r (Tmove f n dd k t) h) kNo := by
  have hwm : -1 ≤ (-1 : Int) ∧ (-1 : Int) < 8 := by decide
  have hwd : -1 ≤ (-1 : Int) ∧ (-1 : Int) < 6 := by decide
  have h8 := kWf_cnt hW
  have h9 := kWf_nxt hW
  have hat := atF_r (n := n) h8.1
  refine kC_of hl rfl rfl (Nat.le_of_ble_eq_true rfl) (L := [some (.ref o), some (.int (iI n)), some (.int (iI dd)), some (.int (iI k)), some (.int (iI t)), none, none, none]) rfl ?_
  refine k_aload_n (pc1 := 1) dX6_move_0 rfl rfl ?_
  refine k_iload_n (pc1 := 2) dX6_move_1 rfl rfl ?_
  refine k_iload_n (pc1 := 3) dX6_move_2 rfl rfl ?_
  by_cases hN0 : atF f n < 0
  · skip
    refine k_callVM (c' := 1) (wm' := (-1)) (wd' := (-1)) (f' := f) (v := .int (iI 1)) dX6_move_3 rfl lk_RX6_108 o_X6_isNoDate hM (w_X6_isNoDateT hl hM hW (by omega) (by omega) hN0) (as := [.int (iI n), .int (iI dd)]) rfl rfl rfl (by decide) (by decide) (k8 rfl) (fun h154 hM154 hX154 => ?_)
    have hF154 := kFm_tr (kFm_rf o g r h) hX154
    refine k_if_eq (a := 1) dX6_move_6 rfl (tgt := 11) rfl (by decide) (fun c => absurd c (by decide)) (fun _ => ?_)
    refine k_iconst (pc1 := 10) dX6_move_9 rfl ?_
    exact k_iret dX6_move_10 rfl rfl (kMt_mk (c1 := 1) (v1 := 0) (f1 := f) (by unfold Tmove; first | exact kI_t (by omega) | (rw [kI_f (by omega)]; first | exact kI_f (by omega) | (rw [kI_t (by omega)]; first | exact kI_f (by omega) | (rw [kI_t (by omega)]; first | exact kI_t (by omega) | (rw [kI_f (by omega)]; first | exact kI_t (by omega) | exact kI_f (by omega)))))) hM154 hF154)
  · skip
    by_cases hN1 : 0 ≤ dd ∧ dd < oF f (atF f n) 3
    · skip
      refine k_callVM (c' := 0) (wm' := (-1)) (wd' := (-1)) (f' := f) (v := .int (iI 0)) dX6_move_3 rfl lk_RX6_108 o_X6_isNoDate hM (w_X6_isNoDateF hl hM hW (by omega) (by omega) ⟨hN0, hN1⟩) (as := [.int (iI n), .int (iI dd)]) rfl rfl rfl (by decide) (by decide) (k8 rfl) (fun h155 hM155 hX155 => ?_)
      have hF155 := kFm_tr (kFm_rf o g r h) hX155
      have hmm := kWf_m hW (m := atF f n) (by omega) (by omega)
      have hdd := kWf_d hW (m := atF f n) (d := dd) (by omega) (by omega) hN1.1 hN1.2
      refine k_if_eq (a := 0) dX6_move_6 rfl (tgt := 11) rfl (by decide) (fun _ => ?_) (fun c => absurd c (by decide))
      refine k_aload_n (pc1 := 12) dX6_move_11 rfl rfl ?_
      refine k_iload_n (pc1 := 13) dX6_move_12 rfl rfl ?_
      refine k_callVP dX6_move_13 rfl lk_RX6_96 o_X6_at (w_X6_at hl hM155 n hW (by omega)) (as := [.int (iI n)]) hM155.1 rfl rfl rfl rfl (by decide) (by decide) (k8 rfl) ?_
      refine k_istore (pc1 := 18) dX6_move_16 rfl (by decide) (k_loc (L' := [some (.ref o), some (.int (iI n)), some (.int (iI dd)), some (.int (iI k)), some (.int (iI t)), some (.int (iI (atF f n))), none, none]) rfl ?_)
      refine k_aload_n (pc1 := 19) dX6_move_18 rfl rfl ?_
      refine k_iload_n (pc1 := 20) dX6_move_19 rfl rfl ?_
      refine k_callSP dX6_move_20 rfl lk_RX6_77 o_X6_isDay (w_X6_isDay hl k (by omega)) (as := [.int (iI k)]) rfl rfl rfl (by decide) (by decide) (k8 rfl) ?_
      refine k_if_eq (a := kB (0 ≤ k ∧ k ≤ 27)) dX6_move_23 rfl (tgt := 53) rfl (kB_r _) (fun c23 : kB (0 ≤ k ∧ k ≤ 27) = 0 => ?_) (fun c23 : kB (0 ≤ k ∧ k ≤ 27) ≠ 0 => ?_)
      · replace c23 : ¬(0 ≤ k ∧ k ≤ 27) := kB_z.mp c23
        refine k_iconst (pc1 := 54) dX6_move_53 rfl ?_
        refine k_callVM (c' := 3) (wm' := (-1)) (wd' := (-1)) (f' := f) (v := .int (iI 1)) dX6_move_54 rfl lk_RX6_34 o_X6_fails hM155 (w_X6_failsT hl hM155 (by decide)) (as := [.int (iI 3)]) rfl rfl rfl (by decide) (by decide) (k8 rfl) (fun h156 hM156 hX156 => ?_)
        have hF156 := kFm_tr hF155 hX156
        refine k_if_eq (a := 1) dX6_move_57 rfl (tgt := 62) rfl (by decide) (fun c => absurd c (by decide)) (fun _ => ?_)
        refine k_iconst (pc1 := 61) dX6_move_60 rfl ?_
        exact k_iret dX6_move_61 rfl rfl (kMt_mk (c1 := 3) (v1 := 0) (f1 := f) (by unfold Tmove; first | exact kI_t (by omega) | (rw [kI_f (by omega)]; first | exact kI_f (by omega) | (rw [kI_t (by omega)]; first | exact kI_f (by omega) | (rw [kI_t (by omega)]; first | exact kI_t (by omega) | (rw [kI_f (by omega)]; first | exact kI_t (by omega) | exact kI_f (by omega)))))) hM156 hF156)
      · replace c23 : (0 ≤ k ∧ k ≤ 27) := kB_nz.mp c23
        refine k_iload (pc1 := 28) dX6_move_26 rfl rfl ?_
        refine k_callSP dX6_move_28 rfl lk_RX6_80 o_X6_isTime (w_X6_isTime hl t (by omega)) (as := [.int (iI t)]) rfl rfl rfl (by decide) (by decide) (k8 rfl) ?_
        refine k_if_eq (a := kB (0 ≤ t ∧ t ≤ 15)) dX6_move_31 rfl (tgt := 53) rfl (kB_r _) (fun c31 : kB (0 ≤ t ∧ t ≤ 15) = 0 => ?_) (fun c31 : kB (0 ≤ t ∧ t ≤ 15) ≠ 0 => ?_)
        · replace c31 : ¬(0 ≤ t ∧ t ≤ 15) := kB_z.mp c31
          refine k_iconst (pc1 := 54) dX6_move_53 rfl ?_
          refine k_callVM (c' := 3) (wm' := (-1)) (wd' := (-1)) (f' := f) (v := .int (iI 1)) dX6_move_54 rfl lk_RX6_34 o_X6_fails hM155 (w_X6_failsT hl hM155 (by decide)) (as := [.int (iI 3)]) rfl rfl rfl (by decide) (by decide) (k8 rfl) (fun h157 hM157 hX157 => ?_)
          have hF157 := kFm_tr hF155 hX157
          refine k_if_eq (a := 1) dX6_move_57 rfl (tgt := 62) rfl (by decide) (fun c => absurd c (by decide)) (fun _ => ?_)
          refine k_iconst (pc1 := 61) dX6_move_60 rfl ?_
          exact k_iret dX6_move_61 rfl rfl (kMt_mk (c1 := 3) (v1 := 0) (f1 := f) (by unfold Tmove; first | exact kI_t (by omega) | (rw [kI_f (by omega)]; first | exact kI_f (by omega) | (rw [kI_t (by omega)]; first | exact kI_f (by omega) | (rw [kI_t (by omega)]; first | exact kI_t (by omega) | (rw [kI_f (by omega)]; first | exact kI_t (by omega) | exact kI_f (by omega)))))) hM157 hF157)
        · replace c31 : (0 ≤ t ∧ t ≤ 15) := kB_nz.mp c31
          refine k_iload (pc1 := 36) dX6_move_34 rfl rfl ?_
          refine k_aload_n (pc1 := 37) dX6_move_36 rfl rfl ?_
          refine k_iload (pc1 := 39) dX6_move_37 rfl rfl ?_
          refine k_iconst (pc1 := 40) dX6_move_39 rfl ?_
          refine k_callVP dX6_move_40 rfl lk_RX6_37 o_X6_of (w_X6_of hl hM155 (atF f n) 2 (by omega) (by omega)) (as := [.int (iI (atF f n)), .int (iI 2)]) hM155.1 rfl rfl rfl rfl (by decide) (by decide) (k8 rfl) ?_
          refine k_iadd (a := t) (b := (oF f (atF f n) 2)) (pc1 := 44) dX6_move_43 rfl ?_
          refine k_bipush 16 (pc1 := 46) dX6_move_44 rfl (by decide) ?_
          refine k_icmp_gt (a := (t + (oF f (atF f n) 2))) (b := 16) dX6_move_46 rfl (tgt := 53) rfl (by omega) (by decide) (fun c46 : 16 < (t + (oF f (atF f n) 2)) => ?_) (fun c46 : (t + (oF f (atF f n) 2)) ≤ 16 => ?_)
          · skip
            refine k_iconst (pc1 := 54) dX6_move_53 rfl ?_
            refine k_callVM (c' := 3) (wm' := (-1)) (wd' := (-1)) (f' := f) (v := .int (iI 1)) dX6_move_54 rfl lk_RX6_34 o_X6_fails hM155 (w_X6_failsT hl hM155 (by decide)) (as := [.int (iI 3)]) rfl rfl rfl (by decide) (by decide) (k8 rfl) (fun h158 hM158 hX158 => ?_)
            have hF158 := kFm_tr hF155 hX158
            refine k_if_eq (a := 1) dX6_move_57 rfl (tgt := 62) rfl (by decide) (fun c => absurd c (by decide)) (fun _ => ?_)
            refine k_iconst (pc1 := 61) dX6_move_60 rfl ?_
            exact k_iret dX6_move_61 rfl rfl (kMt_mk (c1 := 3) (v1 := 0) (f1 := f) (by unfold Tmove; first | exact kI_t (by omega) | (rw [kI_f (by omega)]; first | exact kI_f (by omega) | (rw [kI_t (by omega)]; first | exact kI_f (by omega) | (rw [kI_t (by omega)]; first | exact kI_t (by omega) | (rw [kI_f (by omega)]; first | exact kI_t (by omega) | exact kI_f (by omega)))))) hM158 hF158)
          · skip
            refine k_iconst (pc1 := 50) dX6_move_49 rfl ?_
            refine k_goto dX6_move_50 (tgt := 54) rfl ?_
            refine k_callVM (c' := 0) (wm' := (-1)) (wd' := (-1)) (f' := f) (v := .int (iI 0)) dX6_move_54 rfl lk_RX6_34 o_X6_fails hM155 (w_X6_failsF hl hM155) (as := [.int (iI 0)]) rfl rfl rfl (by decide) (by decide) (k8 rfl) (fun h159 hM159 hX159 => ?_)
            have hF159 := kFm_tr hF155 hX159
            refine k_if_eq (a := 0) dX6_move_57 rfl (tgt := 62) rfl (by decide) (fun _ => ?_) (fun c => absurd c (by decide))
            refine k_aload_n (pc1 := 63) dX6_move_62 rfl rfl ?_
            refine k_iload (pc1 := 65) dX6_move_63 rfl rfl ?_
            refine k_putM2 (pc1 := 68) (x := (atF f n)) rfl dX6_move_65 rfl hM159 (fun h160 hM160 hX160 => ?_)
            have hF160 := kFm_tr hF159 hX160
            refine k_aload_n (pc1 := 69) dX6_move_68 rfl rfl ?_
            refine k_iload_n (pc1 := 70) dX6_move_69 rfl rfl ?_
            refine k_putM3 (pc1 := 73) (x := dd) rfl dX6_move_70 rfl hM160 (fun h161 hM161 hX161 => ?_)
            have hF161 := kFm_tr hF160 hX161
            have hwm : -1 ≤ atF f n ∧ atF f n < 8 := ⟨by omega, by omega⟩
            have hwd : -1 ≤ dd ∧ dd < 6 := ⟨by omega, by omega⟩
            have hpl := ppF_lt f (atF f n)
            have hb1 := bsyF_r f (atF f n) dd (ppF f (atF f n)) k t (oF f (atF f n) 2)
            have hb2 := smlF_r f (atF f n) dd (ppF f (atF f n)) k t (oF f (atF f n) 2)
            refine k_aload_n (pc1 := 74) dX6_move_73 rfl rfl ?_
            refine k_aload_n (pc1 := 75) dX6_move_74 rfl rfl ?_
            refine k_iload (pc1 := 77) dX6_move_75 rfl rfl ?_
            refine k_callVP dX6_move_77 rfl lk_RX6_59 o_X6_people (w_X6_people hl hM161 (atF f n) hW (by omega) (by omega)) (as := [.int (iI (atF f n))]) hM161.1 rfl rfl rfl rfl (by decide) (by decide) (k8 rfl) ?_
            refine k_iload_n (pc1 := 81) dX6_move_80 rfl rfl ?_
            refine k_iload (pc1 := 83) dX6_move_81 rfl rfl ?_
            refine k_aload_n (pc1 := 84) dX6_move_83 rfl rfl ?_
            refine k_iload (pc1 := 86) dX6_move_84 rfl rfl ?_
            refine k_iconst (pc1 := 87) dX6_move_86 rfl ?_
            refine k_callVP dX6_move_87 rfl lk_RX6_37 o_X6_of (w_X6_of hl hM161 (atF f n) 2 (by omega) (by omega)) (as := [.int (iI (atF f n)), .int (iI 2)]) hM161.1 rfl rfl rfl rfl (by decide) (by decide) (k8 rfl) ?_
            refine k_callVP dX6_move_90 rfl lk_RX6_83 o_X6_busy (w_X6_busy hl hM161 (ppF f (atF f n)) k t (oF f (atF f n) 2) (by first | omega | exact kmk_lt _ _ | assumption) hW hwm hwd ⟨by omega, by omega⟩ ⟨by omega, by omega⟩ ⟨by omega, by omega⟩ ) (as := [.int (iI (((ppF f (atF f n)) : Nat) : Int)), .int (iI k), .int (iI t), .int (iI (oF f (atF f n) 2))]) hM161.1 rfl rfl rfl rfl (by decide) (by decide) (k8 rfl) ?_
            refine k_istore (pc1 := 95) dX6_move_93 rfl (by decide) (k_loc (L' := [some (.ref o), some (.int (iI n)), some (.int (iI dd)), some (.int (iI k)), some (.int (iI t)), some (.int (iI (atF f n))), some (.int (iI (bsyF f (atF f n) dd (ppF f (atF f n)) k t (oF f (atF f n) 2)))), none]) rfl ?_)
            refine k_aload_n (pc1 := 96) dX6_move_95 rfl rfl ?_
            refine k_aload_n (pc1 := 97) dX6_move_96 rfl rfl ?_
            refine k_iload (pc1 := 99) dX6_move_97 rfl rfl ?_
            refine k_callVP dX6_move_99 rfl lk_RX6_59 o_X6_people (w_X6_people hl hM161 (atF f n) hW (by omega) (by omega)) (as := [.int (iI (atF f n))]) hM161.1 rfl rfl rfl rfl (by decide) (by decide) (k8 rfl) ?_
            refine k_iload_n (pc1 := 103) dX6_move_102 rfl rfl ?_
            refine k_iload (pc1 := 105) dX6_move_103 rfl rfl ?_
            refine k_aload_n (pc1 := 106) dX6_move_105 rfl rfl ?_
            refine k_iload (pc1 := 108) dX6_move_106 rfl rfl ?_
            refine k_iconst (pc1 := 109) dX6_move_108 rfl ?_
            refine k_callVP dX6_move_109 rfl lk_RX6_37 o_X6_of (w_X6_of hl hM161 (atF f n) 2 (by omega) (by omega)) (as := [.int (iI (atF f n)), .int (iI 2)]) hM161.1 rfl rfl rfl rfl (by decide) (by decide) (k8 rfl) ?_
            refine k_callVP dX6_move_112 rfl lk_RX6_89 o_X6_smallest (w_X6_smallest hl hM161 (ppF f (atF f n)) k t (oF f (atF f n) 2) (by first | omega | exact kmk_lt _ _ | assumption) hW hwm hwd ⟨by omega, by omega⟩ ⟨by omega, by omega⟩ ⟨by omega, by omega⟩ ) (as := [.int (iI (((ppF f (atF f n)) : Nat) : Int)), .int (iI k), .int (iI t), .int (iI (oF f (atF f n) 2))]) hM161.1 rfl rfl rfl rfl (by decide) (by decide) (k8 rfl) ?_
            refine k_istore (pc1 := 117) dX6_move_115 rfl (by decide) (k_loc (L' := [some (.ref o), some (.int (iI n)), some (.int (iI dd)), some (.int (iI k)), some (.int (iI t)), some (.int (iI (atF f n))), some (.int (iI (bsyF f (atF f n) dd (ppF f (atF f n)) k t (oF f (atF f n) 2)))), some (.int (iI (smlF f (atF f n) dd (ppF f (atF f n)) k t (oF f (atF f n) 2))))]) rfl ?_)
            refine k_aload_n (pc1 := 118) dX6_move_117 rfl rfl ?_
            refine k_iconst (pc1 := 119) dX6_move_118 rfl ?_
            refine k_putM2 (pc1 := 122) (x := (-1)) rfl dX6_move_119 rfl hM161 (fun h162 hM162 hX162 => ?_)
            have hF162 := kFm_tr hF161 hX162
            refine k_aload_n (pc1 := 123) dX6_move_122 rfl rfl ?_
            refine k_iconst (pc1 := 124) dX6_move_123 rfl ?_
            refine k_putM3 (pc1 := 127) (x := (-1)) rfl dX6_move_124 rfl hM162 (fun h163 hM163 hX163 => ?_)
            have hF163 := kFm_tr hF162 hX163
            refine k_iload (pc1 := 129) dX6_move_127 rfl rfl ?_
            refine k_if_lt (a := (bsyF f (atF f n) dd (ppF f (atF f n)) k t (oF f (atF f n) 2))) dX6_move_129 rfl (tgt := 143) rfl (by omega) (fun c129 : (bsyF f (atF f n) dd (ppF f (atF f n)) k t (oF f (atF f n) 2)) < 0 => ?_) (fun c129 : ¬ (bsyF f (atF f n) dd (ppF f (atF f n)) k t (oF f (atF f n) 2)) < 0 => ?_)
            · skip
              refine k_iload (pc1 := 145) dX6_move_143 rfl rfl ?_
              refine k_if_ge (a := (smlF f (atF f n) dd (ppF f (atF f n)) k t (oF f (atF f n) 2))) dX6_move_145 rfl (tgt := 160) rfl (by omega) (fun c145 : 0 ≤ (smlF f (atF f n) dd (ppF f (atF f n)) k t (oF f (atF f n) 2)) => ?_) (fun c145 : (smlF f (atF f n) dd (ppF f (atF f n)) k t (oF f (atF f n) 2)) < 0 => ?_)
              · skip
                refine k_aload_n (pc1 := 161) dX6_move_160 rfl rfl ?_
                refine k_iload (pc1 := 163) dX6_move_161 rfl rfl ?_
                refine k_iload_n (pc1 := 164) dX6_move_163 rfl rfl ?_
                refine k_iload_n (pc1 := 165) dX6_move_164 rfl rfl ?_
                refine k_iload (pc1 := 167) dX6_move_165 rfl rfl ?_
                refine k_iload (pc1 := 169) dX6_move_167 rfl rfl ?_
                refine k_callVMn (c' := 0) (wm' := (-1)) (wd' := (-1)) (f' := (dtF f (atF f n) dd k t (smlF f (atF f n) dd (ppF f (atF f n)) k t (oF f (atF f n) 2)))) dX6_move_169 rfl lk_RX6_92 o_X6_dates hM163 (w_X6_dates hl hM163 (atF f n) dd k t (smlF f (atF f n) dd (ppF f (atF f n)) k t (oF f (atF f n) 2)) ⟨by omega, by omega⟩ ⟨by omega, by omega⟩) (as := [.int (iI (atF f n)), .int (iI dd), .int (iI k), .int (iI t), .int (iI (smlF f (atF f n) dd (ppF f (atF f n)) k t (oF f (atF f n) 2)))]) rfl rfl rfl (by decide) (by decide) (k8 rfl) (fun h164 hM164 hX164 => ?_)
                have hF164 := kFm_tr hF163 hX164
                refine k_iload (pc1 := 174) dX6_move_172 rfl rfl ?_
                exact k_iret dX6_move_174 rfl rfl (kMt_mk (c1 := 0) (v1 := (smlF f (atF f n) dd (ppF f (atF f n)) k t (oF f (atF f n) 2))) (f1 := (dtF f (atF f n) dd k t (smlF f (atF f n) dd (ppF f (atF f n)) k t (oF f (atF f n) 2)))) (by unfold Tmove; first | exact kI_t (by omega) | (rw [kI_f (by omega)]; first | exact kI_f (by omega) | (rw [kI_t (by omega)]; first | exact kI_f (by omega) | (rw [kI_t (by omega)]; first | exact kI_t (by omega) | (rw [kI_f (by omega)]; first | exact kI_t (by omega) | exact kI_f (by omega)))))) hM164 hF164)
              · skip
                refine k_aload_n (pc1 := 149) dX6_move_148 rfl rfl ?_
                refine k_iconst (pc1 := 150) dX6_move_149 rfl ?_
                refine k_iload_n (pc1 := 151) dX6_move_150 rfl rfl ?_
                refine k_iconst (pc1 := 152) dX6_move_151 rfl ?_
                refine k_callVM (c' := 4) (wm' := (-1)) (wd' := (-1)) (f' := (rfF f 2 dd)) (v := .int (iI 1)) dX6_move_152 rfl lk_RX6_86 o_X6_refuses hM163 (w_X6_refuses hl hM163 2 dd (by decide)) (as := [.int (iI 2), .int (iI dd), .int (iI 4)]) rfl rfl rfl (by decide) (by decide) (k8 rfl) (fun h165 hM165 hX165 => ?_)
                have hF165 := kFm_tr hF163 hX165
                refine k_if_eq (a := 1) dX6_move_155 rfl (tgt := 160) rfl (by decide) (fun c => absurd c (by decide)) (fun _ => ?_)
                refine k_iconst (pc1 := 159) dX6_move_158 rfl ?_
                exact k_iret dX6_move_159 rfl rfl (kMt_mk (c1 := 4) (v1 := 0) (f1 := (rfF f 2 dd)) (by unfold Tmove; first | exact kI_t (by omega) | (rw [kI_f (by omega)]; first | exact kI_f (by omega) | (rw [kI_t (by omega)]; first | exact kI_f (by omega) | (rw [kI_t (by omega)]; first | exact kI_t (by omega) | (rw [kI_f (by omega)]; first | exact kI_t (by omega) | exact kI_f (by omega)))))) hM165 hF165)
            · skip
              refine k_aload_n (pc1 := 133) dX6_move_132 rfl rfl ?_
              refine k_iconst (pc1 := 134) dX6_move_133 rfl ?_
              refine k_iload (pc1 := 136) dX6_move_134 rfl rfl ?_
              refine k_iconst (pc1 := 137) dX6_move_136 rfl ?_
              refine k_callVM (c' := 4) (wm' := (-1)) (wd' := (-1)) (f' := (rfF f 1 (bsyF f (atF f n) dd (ppF f (atF f n)) k t (oF f (atF f n) 2)))) (v := .int (iI 1)) dX6_move_137 rfl lk_RX6_86 o_X6_refuses hM163 (w_X6_refuses hl hM163 1 (bsyF f (atF f n) dd (ppF f (atF f n)) k t (oF f (atF f n) 2)) (by decide)) (as := [.int (iI 1), .int (iI (bsyF f (atF f n) dd (ppF f (atF f n)) k t (oF f (atF f n) 2))), .int (iI 4)]) rfl rfl rfl (by decide) (by decide) (k8 rfl) (fun h166 hM166 hX166 => ?_)
              have hF166 := kFm_tr hF163 hX166
              refine k_if_ne (a := 1) dX6_move_140 rfl (tgt := 158) rfl (by decide) (fun _ => ?_) (fun c => absurd c (by decide))
              refine k_iconst (pc1 := 159) dX6_move_158 rfl ?_
              exact k_iret dX6_move_159 rfl rfl (kMt_mk (c1 := 4) (v1 := 0) (f1 := (rfF f 1 (bsyF f (atF f n) dd (ppF f (atF f n)) k t (oF f (atF f n) 2)))) (by unfold Tmove; first | exact kI_t (by omega) | (rw [kI_f (by omega)]; first | exact kI_f (by omega) | (rw [kI_t (by omega)]; first | exact kI_f (by omega) | (rw [kI_t (by omega)]; first | exact kI_t (by omega) | (rw [kI_f (by omega)]; first | exact kI_t (by omega) | exact kI_f (by omega)))))) hM166 hF166)
    · skip
      refine k_callVM (c' := 2) (wm' := (-1)) (wd' := (-1)) (f' := f) (v := .int (iI 1)) dX6_move_3 rfl lk_RX6_108 o_X6_isNoDate hM (w_X6_isNoDateU hl hM hW (by omega) (by omega) ⟨hN0, hN1⟩) (as := [.int (iI n), .int (iI dd)]) rfl rfl rfl (by decide) (by decide) (k8 rfl) (fun h167 hM167 hX167 => ?_)
      have hF167 := kFm_tr (kFm_rf o g r h) hX167
      refine k_if_eq (a := 1) dX6_move_6 rfl (tgt := 11) rfl (by decide) (fun c => absurd c (by decide)) (fun _ => ?_)
      refine k_iconst (pc1 := 10) dX6_move_9 rfl ?_
      exact k_iret dX6_move_10 rfl rfl (kMt_mk (c1 := 2) (v1 := 0) (f1 := f) (by unfold Tmove; first | exact kI_t (by omega) | (rw [kI_f (by omega)]; first | exact kI_f (by omega) | (rw [kI_t (by omega)]; first | exact kI_f (by omega) | (rw [kI_t (by omega)]; first | exact kI_t (by omega) | (rw [kI_f (by omega)]; first | exact kI_t (by omega) | exact kI_f (by omega)))))) hM167 hF167)
