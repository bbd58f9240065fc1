/-! ===== the class: used times, walks, consistency, walked ===== -/
theorem w_X5_usedTimes {l : Launch} {G : kG} {h : kAH} (hl : l.stackTraces = false) {pl : Nat} {γ : kGh} {A : kAb} {f : Nat → Int} (hC : kRp G h pl γ A f) {rm k : Int} (rrm : -2147483648 ≤ rm ∧ rm < 2147483648) (rk : -2147483648 ≤ k ∧ k < 2147483648) : kC l G m_X5_usedTimes 4 1 6 [.ref pl, .int (iI rm), .int (iI k)] h (kOy G pl γ h (TusedTimes f rm k)) (kOn G pl γ h (TusedTimes f rm k) ["", "java/lang/IllegalArgumentException"]) := by
  have h8 := kWf_cnt hC.2.2
  refine kC_of hl rfl rfl (Nat.le_of_ble_eq_true rfl) (L := [some (.ref pl), some (.int (iI rm)), some (.int (iI k)), none, none, none, none, none]) rfl ?_
  refine k_aload_n (pc1 := 1) dX5_usedTimes_0 rfl rfl ?_
  refine k_iload_n (pc1 := 2) dX5_usedTimes_1 rfl rfl ?_
  by_cases hr2 : 0 ≤ rm ∧ rm < 4
  · skip
    refine k_callVP dX5_usedTimes_2 rfl lk_RX5_45 o_X5_roomWith (w_rmY hl hC ⟨by omega, by omega⟩) (as := [.int (iI rm)]) (rp_P hC) rfl rfl rfl rfl (by decide) (by decide) (k8 rfl) ?_
    refine k_astore_n (pc1 := 6) dX5_usedTimes_5 rfl (by decide) (k_loc (L' := [some (.ref pl), some (.int (iI rm)), some (.int (iI k)), some (.ref (gRm γ rm)), none, none, none, none]) rfl ?_)
    refine k_aload_n (pc1 := 7) dX5_usedTimes_6 rfl rfl ?_
    refine k_iload_n (pc1 := 8) dX5_usedTimes_7 rfl rfl ?_
    by_cases hy8 : 0 ≤ k ∧ k < 28
    · skip
      refine k_callVP dX5_usedTimes_8 rfl lk_RX5_242 o_X5_dayWith (w_dyY hl hC ⟨by omega, by omega⟩) (as := [.int (iI k)]) (rp_P hC) rfl rfl rfl rfl (by decide) (by decide) (k8 rfl) ?_
      obtain ⟨arD, cD, hDl⟩ := rp_Dl hC (k := k) (by omega) (by omega)
      obtain ⟨mcD, hDa⟩ := hDl.1
      have hlen := rp_len hC (k := k) (by omega) (by omega)
      refine k_get (pc1 := 14) dX5_usedTimes_11 rfl fd_RX5_246 (rp_Dy hC (by omega) (by omega)) (v := .ref (gDl γ k)) rfl ?_
      refine k_astore (pc1 := 16) dX5_usedTimes_14 rfl (by decide) (k_loc (L' := [some (.ref pl), some (.int (iI rm)), some (.int (iI k)), some (.ref (gRm γ rm)), some (.ref (gDl γ k)), none, none, none]) rfl ?_)
      refine k_iconst (pc1 := 17) dX5_usedTimes_16 rfl ?_
      refine k_istore (pc1 := 19) dX5_usedTimes_17 rfl (by decide) (k_loc (L' := [some (.ref pl), some (.int (iI rm)), some (.int (iI k)), some (.ref (gRm γ rm)), some (.ref (gDl γ k)), some (.int (iI 0)), none, none]) rfl ?_)
      refine k_iconst (pc1 := 20) dX5_usedTimes_19 rfl ?_
      refine k_istore (pc1 := 22) dX5_usedTimes_20 rfl (by decide) (k_loc (L' := [some (.ref pl), some (.int (iI rm)), some (.int (iI k)), some (.ref (gRm γ rm)), some (.ref (gDl γ k)), some (.int (iI 0)), some (.int (iI 0)), none]) rfl ?_)
      have hloop22 : ∀ (zz : Nat) (i : Nat) (s n : Int), zz = (aDx A k).length - i → (i ≤ (aDx A k).length) → (swI A f k (fun m d => dF f m d 3 = rm) i s n) → kW l G m_X5_usedTimes 4 (kOy G pl γ h (TusedTimes f rm k)) (kOn G pl γ h (TusedTimes f rm k) ["", "java/lang/IllegalArgumentException"]) 1 6 22 [some (.ref pl), some (.int (iI rm)), some (.int (iI k)), some (.ref (gRm γ rm)), some (.ref (gDl γ k)), some (.int (iI n)), some (.int (iI ((i : Nat) : Int))), none] [] h := by
        intro zz
        induction zz using Nat.strongRecOn with
        | ind zz ih22 =>
        intro i s n hr22 hi9 hB
        refine k_iload (pc1 := 24) dX5_usedTimes_22 rfl rfl ?_
        refine k_aload (pc1 := 26) dX5_usedTimes_24 rfl rfl ?_
        refine k_callVP dX5_usedTimes_26 rfl lk_RX5_65 o_Jx4a65c_size_8abf5 (w_lsz hl hDl) (as := []) hDa rfl rfl rfl rfl (by decide) (by decide) (k8 rfl) ?_
        refine k_val (v' := .int (iI (((aDx A k).length : Nat) : Int))) (congrArg (fun z : Nat => Value.int (iI (z : Int))) (List.length_map _)) ?_
        refine k_icmp_ge (a := ((i : Nat) : Int)) (b := (((aDx A k).length : Nat) : Int)) dX5_usedTimes_29 rfl (tgt := 72) rfl (by omega) (by omega) (fun c29 : (((aDx A k).length : Nat) : Int) ≤ ((i : Nat) : Int) => ?_) (fun c29 : ((i : Nat) : Int) < (((aDx A k).length : Nat) : Int) => ?_)
        · skip
          refine k_iload (pc1 := 74) dX5_usedTimes_72 rfl rfl ?_
          exact k_iret dX5_usedTimes_74 rfl rfl (kOy_mk (v := n) (f' := f) (by have e := sw_end hC (by omega) (by omega) (show i = (aDx A k).length by omega) hB; rw [TusedTimes, kI_t (by omega), ksm_cg (fun t ht => kB_cg (cv_r hC.2.2)), ← e]) (kSt_rf hC))
        · skip
          obtain ⟨m, dd, hi, ho, hk2, hx⟩ := rp_at hC (k := k) (by omega) (by omega) (i := i) (by omega)
          have hmm := kWf_m hC.2.2 hi.1 hi.2.1
          have hmd := kWf_d hC.2.2 hi.1 hi.2.1 hi.2.2.1 hi.2.2.2
          have hmx := rp_Mx hC hi.1 hi.2.1
          refine k_aload (pc1 := 34) dX5_usedTimes_32 rfl rfl ?_
          refine k_iload (pc1 := 36) dX5_usedTimes_34 rfl rfl ?_
          refine k_callVP dX5_usedTimes_36 rfl lk_RX5_131 o_Jx4a65c_get_915e3 (w_lgt hl hDl ((i : Nat) : Int) ⟨by omega, by rw [List.length_map _]; omega⟩ (by rw [show ((((i : Nat) : Int)) : Int).toNat = i from rfl, List.getElem?_map, hx]; rfl)) (as := [.int (iI ((i : Nat) : Int))]) hDa rfl rfl rfl rfl (by decide) (by decide) (k8 rfl) ?_
          refine k_cast (r := (RX0, TX0, 4)) (pc1 := 42) dX5_usedTimes_39 rfl cl_RX5_109 (rp_D hC hi) rfl ?_
          refine k_astore (pc1 := 44) dX5_usedTimes_42 rfl (by decide) (k_loc (L' := [some (.ref pl), some (.int (iI rm)), some (.int (iI k)), some (.ref (gRm γ rm)), some (.ref (gDl γ k)), some (.int (iI n)), some (.int (iI ((i : Nat) : Int))), some (.ref (gDt γ (oF f m 0) dd))]) rfl ?_)
          refine k_aload (pc1 := 46) dX5_usedTimes_44 rfl rfl ?_
          refine k_get (pc1 := 49) dX5_usedTimes_46 rfl fd_RX5_190 (rp_D hC hi) (v := .ref (gRm γ (dF f m dd 3))) rfl ?_
          refine k_aload_n (pc1 := 50) dX5_usedTimes_49 rfl rfl ?_
          refine k_acmp_ne (rx := (some (gRm γ (dF f m dd 3)))) (ry := (some (gRm γ rm))) dX5_usedTimes_50 rfl (tgt := 66) rfl (fun c50 : (some (gRm γ (dF f m dd 3))) ≠ (some (gRm γ rm)) => ?_) (fun c50 : (some (gRm γ (dF f m dd 3))) = (some (gRm γ rm)) => ?_)
          · skip
            refine k_iinc (a := ((i : Nat) : Int)) (pc1 := 69) dX5_usedTimes_66 rfl rfl (by decide) (k_loc (L' := [some (.ref pl), some (.int (iI rm)), some (.int (iI k)), some (.ref (gRm γ rm)), some (.ref (gDl γ k)), some (.int (iI n)), some (.int (iI (((i : Nat) : Int) + 1))), some (.ref (gDt γ (oF f m 0) dd))]) rfl ?_)
            refine k_goto dX5_usedTimes_69 (tgt := 22) rfl ?_
            refine k_forget 7 (k_loc (L' := [some (.ref pl), some (.int (iI rm)), some (.int (iI k)), some (.ref (gRm γ rm)), some (.ref (gDl γ k)), some (.int (iI n)), some (.int (iI (((i : Nat) : Int) + 1))), none]) rfl ?_)
            exact ih22 _ (by omega) (i + 1) s n rfl (by omega) (sw_skip hC hi hx hB (fun z => c50 (congrArg some ((rp_rr hC (by omega) (by omega) (by omega) (by omega)).mpr z))))
          · skip
            refine k_iload (pc1 := 55) dX5_usedTimes_53 rfl rfl ?_
            refine k_aload (pc1 := 57) dX5_usedTimes_55 rfl rfl ?_
            refine k_get (pc1 := 60) dX5_usedTimes_57 rfl fd_RX5_108 (rp_D hC hi) (v := .ref (gSt γ (oF f m 0) dd)) rfl ?_
            refine k_get (pc1 := 63) dX5_usedTimes_60 rfl fd_RX5_125 (rp_S hC hi) (v := .int (iI (oF f m 2))) rfl ?_
            refine k_iadd (a := n) (b := (oF f m 2)) (pc1 := 64) dX5_usedTimes_63 rfl ?_
            refine k_istore (pc1 := 66) dX5_usedTimes_64 rfl (by decide) (k_loc (L' := [some (.ref pl), some (.int (iI rm)), some (.int (iI k)), some (.ref (gRm γ rm)), some (.ref (gDl γ k)), some (.int (iI (n + (oF f m 2)))), some (.int (iI ((i : Nat) : Int))), some (.ref (gDt γ (oF f m 0) dd))]) rfl ?_)
            refine k_iinc (a := ((i : Nat) : Int)) (pc1 := 69) dX5_usedTimes_66 rfl rfl (by decide) (k_loc (L' := [some (.ref pl), some (.int (iI rm)), some (.int (iI k)), some (.ref (gRm γ rm)), some (.ref (gDl γ k)), some (.int (iI (n + (oF f m 2)))), some (.int (iI (((i : Nat) : Int) + 1))), some (.ref (gDt γ (oF f m 0) dd))]) rfl ?_)
            refine k_goto dX5_usedTimes_69 (tgt := 22) rfl ?_
            refine k_forget 7 (k_loc (L' := [some (.ref pl), some (.int (iI rm)), some (.int (iI k)), some (.ref (gRm γ rm)), some (.ref (gDl γ k)), some (.int (iI (n + (oF f m 2)))), some (.int (iI (((i : Nat) : Int) + 1))), none]) rfl ?_)
            exact ih22 _ (by omega) (i + 1) _ _ rfl (by omega) (sw_take hC (by omega) (by omega) (ap_r hC.2.2) hi ho hk2 hx hB ((rp_rr hC (by omega) (by omega) (by omega) (by omega)).mp (Option.some.inj c50)))
      exact hloop22 _ 0 0 0 rfl (by omega) sw_0
    · skip
      refine k_callV dX5_usedTimes_8 rfl lk_RX5_242 o_X5_dayWith (as := [.int (iI k)]) rfl rfl (rp_P hC) rfl rfl (w_dyN hl hC (by omega) (by omega)) (by decide) (by decide) (by decide) (by decide) (k8 rfl) (fun v h9 z => z.elim) (fun E h9 z => kx_out rfl ?_)
      obtain ⟨hv1, hv2⟩ := z
      subst hv1
      rw [hv2]
      exact (kOn_mk (c := 1) (v := 0) (f' := f) (by first | exact kI_t (by first | omega | assumption) | exact kI_f (by first | omega | assumption)) (by decide) rfl (kSt_rf hC))
  · skip
    refine k_callV dX5_usedTimes_2 rfl lk_RX5_45 o_X5_roomWith (as := [.int (iI rm)]) rfl rfl (rp_P hC) rfl rfl (w_rmN hl hC (by omega) (by omega)) (by decide) (by decide) (by decide) (by decide) (k8 rfl) (fun v h9 z => z.elim) (fun E h9 z => kx_out rfl ?_)
    obtain ⟨hv1, hv2⟩ := z
    subst hv1
    rw [hv2]
    exact (kOn_mk (c := 1) (v := 0) (f' := f) (by first | exact kI_t (by first | omega | assumption) | exact kI_f (by first | omega | assumption)) (by decide) rfl (kSt_rf hC))
theorem w_X5_walks {l : Launch} {G : kG} {h : kAH} (hl : l.stackTraces = false) {pl : Nat} {γ : kGh} {A : kAb} {f : Nat → Int} (hC : kRp G h pl γ A f) {p k : Int} (rp : -2147483648 ≤ p ∧ p < 2147483648) (rk : -2147483648 ≤ k ∧ k < 2147483648) : kC l G m_X5_walks 4 1 6 [.ref pl, .int (iI p), .int (iI k)] h (kOy G pl γ h (Twalks f p k)) (kOn G pl γ h (Twalks f p k) ["", "java/lang/IllegalArgumentException"]) := by
  have h8 := kWf_cnt hC.2.2
  refine kC_of hl rfl rfl (Nat.le_of_ble_eq_true rfl) (L := [some (.ref pl), some (.int (iI p)), some (.int (iI k)), none, none, none, none, none]) rfl ?_
  refine k_iload_n (pc1 := 1) dX5_walks_0 rfl rfl ?_
  by_cases hq1 : 0 ≤ p ∧ p ≤ 5
  · skip
    refine k_callS dX5_walks_1 rfl rfl lk_RX5_58 o_X5_requirePerson (as := [.int (iI p)]) rfl rfl (w_rpY hl (by omega) hq1) (by decide) (by decide) (by decide) (by decide) (k8 rfl) (fun v h9 hv => ?_) (fun E h9 z => z.elim)
    obtain ⟨hv1, hv2⟩ := hv
    subst hv1
    rw [hv2]
    refine k_st (st' := []) rfl ?_
    refine k_aload_n (pc1 := 5) dX5_walks_4 rfl rfl ?_
    refine k_iload_n (pc1 := 6) dX5_walks_5 rfl rfl ?_
    by_cases hy6 : 0 ≤ k ∧ k < 28
    · skip
      refine k_callVP dX5_walks_6 rfl lk_RX5_242 o_X5_dayWith (w_dyY hl hC ⟨by omega, by omega⟩) (as := [.int (iI k)]) (rp_P hC) rfl rfl rfl rfl (by decide) (by decide) (k8 rfl) ?_
      obtain ⟨arD, cD, hDl⟩ := rp_Dl hC (k := k) (by omega) (by omega)
      obtain ⟨mcD, hDa⟩ := hDl.1
      have hlen := rp_len hC (k := k) (by omega) (by omega)
      refine k_get (pc1 := 12) dX5_walks_9 rfl fd_RX5_246 (rp_Dy hC (by omega) (by omega)) (v := .ref (gDl γ k)) rfl ?_
      refine k_astore_n (pc1 := 13) dX5_walks_12 rfl (by decide) (k_loc (L' := [some (.ref pl), some (.int (iI p)), some (.int (iI k)), some (.ref (gDl γ k)), none, none, none, none]) rfl ?_)
      refine k_iconst (pc1 := 14) dX5_walks_13 rfl ?_
      refine k_istore (pc1 := 16) dX5_walks_14 rfl (by decide) (k_loc (L' := [some (.ref pl), some (.int (iI p)), some (.int (iI k)), some (.ref (gDl γ k)), some (.int (iI 0)), none, none, none]) rfl ?_)
      refine k_null (pc1 := 17) dX5_walks_16 rfl ?_
      refine k_astoreN (pc1 := 19) dX5_walks_17 rfl (by decide) (k_loc (L' := [some (.ref pl), some (.int (iI p)), some (.int (iI k)), some (.ref (gDl γ k)), some (.int (iI 0)), some (.null), none, none]) rfl ?_)
      refine k_iconst (pc1 := 20) dX5_walks_19 rfl ?_
      refine k_istore (pc1 := 22) dX5_walks_20 rfl (by decide) (k_loc (L' := [some (.ref pl), some (.int (iI p)), some (.int (iI k)), some (.ref (gDl γ k)), some (.int (iI 0)), some (.null), some (.int (iI 0)), none]) rfl ?_)
      have hloop22 : ∀ (zz : Nat) (i : Nat) (s : Int) (x : Int × Int) (bq : Option Nat), zz = (aDx A k).length - i → (i ≤ (aDx A k).length) → (wlI A f p k i s x) → ((bq = none ∧ x.2 = -1) ∨ ∃ m2 d2 : Int, inP f m2 d2 ∧ bq = some (gDt γ (oF f m2 0) d2) ∧ x.2 = f (9 + dF f m2 d2 3).toNat) → kW l G m_X5_walks 4 (kOy G pl γ h (Twalks f p k)) (kOn G pl γ h (Twalks f p k) ["", "java/lang/IllegalArgumentException"]) 1 6 22 [some (.ref pl), some (.int (iI p)), some (.int (iI k)), some (.ref (gDl γ k)), some (.int (iI x.1)), some (va_rf bq), some (.int (iI ((i : Nat) : Int))), none] [] h := by
        intro zz
        induction zz using Nat.strongRecOn with
        | ind zz ih22 =>
        intro i s x bq hr22 hi9 hB hb
        refine k_iload (pc1 := 24) dX5_walks_22 rfl rfl ?_
        refine k_aload_n (pc1 := 25) dX5_walks_24 rfl rfl ?_
        refine k_callVP dX5_walks_25 rfl lk_RX5_65 o_Jx4a65c_size_8abf5 (w_lsz hl hDl) (as := []) hDa rfl rfl rfl rfl (by decide) (by decide) (k8 rfl) ?_
        refine k_val (v' := .int (iI (((aDx A k).length : Nat) : Int))) (congrArg (fun z : Nat => Value.int (iI (z : Int))) (List.length_map _)) ?_
        refine k_icmp_ge (a := ((i : Nat) : Int)) (b := (((aDx A k).length : Nat) : Int)) dX5_walks_28 rfl (tgt := 91) rfl (by omega) (by omega) (fun c28 : (((aDx A k).length : Nat) : Int) ≤ ((i : Nat) : Int) => ?_) (fun c28 : ((i : Nat) : Int) < (((aDx A k).length : Nat) : Int) => ?_)
        · skip
          refine k_iload (pc1 := 93) dX5_walks_91 rfl rfl ?_
          exact k_iret dX5_walks_93 rfl rfl (kOy_mk (v := x.1) (f' := f) (by have e := wl_end hC (by omega) (by omega) (show i = (aDx A k).length by omega) hB; rw [Twalks, kI_t (by omega), ← e]) (kSt_rf hC))
        · skip
          obtain ⟨m, dd, hi, ho, hk2, hx⟩ := rp_at hC (k := k) (by omega) (by omega) (i := i) (by omega)
          have hmm := kWf_m hC.2.2 hi.1 hi.2.1
          have hmd := kWf_d hC.2.2 hi.1 hi.2.1 hi.2.2.1 hi.2.2.2
          have hmx := rp_Mx hC hi.1 hi.2.1
          refine k_aload_n (pc1 := 32) dX5_walks_31 rfl rfl ?_
          refine k_iload (pc1 := 34) dX5_walks_32 rfl rfl ?_
          refine k_callVP dX5_walks_34 rfl lk_RX5_131 o_Jx4a65c_get_915e3 (w_lgt hl hDl ((i : Nat) : Int) ⟨by omega, by rw [List.length_map _]; omega⟩ (by rw [show ((((i : Nat) : Int)) : Int).toNat = i from rfl, List.getElem?_map, hx]; rfl)) (as := [.int (iI ((i : Nat) : Int))]) hDa rfl rfl rfl rfl (by decide) (by decide) (k8 rfl) ?_
          refine k_cast (r := (RX0, TX0, 4)) (pc1 := 40) dX5_walks_37 rfl cl_RX5_109 (rp_D hC hi) rfl ?_
          refine k_astore (pc1 := 42) dX5_walks_40 rfl (by decide) (k_loc (L' := [some (.ref pl), some (.int (iI p)), some (.int (iI k)), some (.ref (gDl γ k)), some (.int (iI x.1)), some (va_rf bq), some (.int (iI ((i : Nat) : Int))), some (.ref (gDt γ (oF f m 0) dd))]) rfl ?_)
          refine k_aload (pc1 := 44) dX5_walks_42 rfl rfl ?_
          refine k_get (pc1 := 47) dX5_walks_44 rfl fd_RX5_218 (rp_D hC hi) (v := .ref (gMt γ (oF f m 0))) rfl ?_
          refine k_iload_n (pc1 := 48) dX5_walks_47 rfl rfl ?_
          refine k_callVP dX5_walks_48 rfl lk_RX5_247 o_X2_expects (w_X2_expects hl (rp_M hC hi.1 hi.2.1) ⟨by omega, by omega⟩ hmx.1 hmx.2.1 hmx.2.2.1 p ⟨by omega, by omega⟩) (as := [.int (iI p)]) (rp_M hC hi.1 hi.2.1) rfl rfl rfl rfl (by decide) (by decide) (k8 rfl) ?_
          refine k_val (v' := .int (iI (kB (exF f m p)))) (congrArg (fun z => Value.int (iI z)) (kB_cg (rp_exp hC hi.1 hi.2.1 ⟨by omega, by omega⟩))) ?_
          have hrm := kWf_room hC.2.2 (r := dF f m dd 3) (by omega) (by omega)
          refine k_if_eq (a := kB (exF f m p)) dX5_walks_51 rfl (tgt := 85) rfl (kB_r _) (fun c51 : kB (exF f m p) = 0 => ?_) (fun c51 : kB (exF f m p) ≠ 0 => ?_)
          · replace c51 : ¬(exF f m p) := kB_z.mp c51
            refine k_iinc (a := ((i : Nat) : Int)) (pc1 := 88) dX5_walks_85 rfl rfl (by decide) (k_loc (L' := [some (.ref pl), some (.int (iI p)), some (.int (iI k)), some (.ref (gDl γ k)), some (.int (iI x.1)), some (va_rf bq), some (.int (iI (((i : Nat) : Int) + 1))), some (.ref (gDt γ (oF f m 0) dd))]) (kset1_q (i := 5) rfl) ?_)
            refine k_goto dX5_walks_88 (tgt := 22) rfl ?_
            refine k_forget 7 (k_loc (L' := [some (.ref pl), some (.int (iI p)), some (.int (iI k)), some (.ref (gDl γ k)), some (.int (iI x.1)), some (va_rf bq), some (.int (iI (((i : Nat) : Int) + 1))), none]) rfl ?_)
            exact ih22 _ (by omega) (i + 1) s x bq rfl (by omega) (wl_skip hC hi hx hB c51) hb
          · replace c51 : (exF f m p) := kB_nz.mp c51
            rcases hb with ⟨hb1, hb2⟩ | ⟨m2, d2, hi2, hb1, hb2⟩
            · skip
              refine k_loc (L' := [some (.ref pl), some (.int (iI p)), some (.int (iI k)), some (.ref (gDl γ k)), some (.int (iI x.1)), some (.null), some (.int (iI ((i : Nat) : Int))), some (.ref (gDt γ (oF f m 0) dd))]) (by rw [hb1]; rfl) ?_
              refine k_aloadN (pc1 := 56) dX5_walks_54 rfl rfl ?_
              refine k_ifnullN dX5_walks_56 (tgt := 81) rfl ?_
              refine k_aload (pc1 := 83) dX5_walks_81 rfl rfl ?_
              refine k_astore (pc1 := 85) dX5_walks_83 rfl (by decide) (k_loc (L' := [some (.ref pl), some (.int (iI p)), some (.int (iI k)), some (.ref (gDl γ k)), some (.int (iI x.1)), some (.ref (gDt γ (oF f m 0) dd)), some (.int (iI ((i : Nat) : Int))), some (.ref (gDt γ (oF f m 0) dd))]) rfl ?_)
              refine k_iinc (a := ((i : Nat) : Int)) (pc1 := 88) dX5_walks_85 rfl rfl (by decide) (k_loc (L' := [some (.ref pl), some (.int (iI p)), some (.int (iI k)), some (.ref (gDl γ k)), some (.int (iI x.1)), some (.ref (gDt γ (oF f m 0) dd)), some (.int (iI (((i : Nat) : Int) + 1))), some (.ref (gDt γ (oF f m 0) dd))]) rfl ?_)
              refine k_goto dX5_walks_88 (tgt := 22) rfl ?_
              refine k_forget 7 (k_loc (L' := [some (.ref pl), some (.int (iI p)), some (.int (iI k)), some (.ref (gDl γ k)), some (.int (iI x.1)), some (.ref (gDt γ (oF f m 0) dd)), some (.int (iI (((i : Nat) : Int) + 1))), none]) rfl ?_)
              have e1 : (wkS (f (9 + dF f m dd 3).toNat) x).1 = x.1 := by
                rw [wkS_eq (n := x.1) (x := x.2) (by omega)]
                show kI _ _ _ = _
                first | rw [kI_t (by omega)] | rw [kI_f (by omega)]
              refine k_loc (L' := [some (.ref pl), some (.int (iI p)), some (.int (iI k)), some (.ref (gDl γ k)), some (.int (iI ((wkS (f (9 + dF f m dd 3).toNat) x).1))), some (.ref (gDt γ (oF f m 0) dd)), some (.int (iI (((i : Nat) : Int) + 1))), none]) (by rw [e1]) ?_
              exact ih22 _ (by omega) (i + 1) _ (wkS (f (9 + dF f m dd 3).toNat) x) (some (gDt γ (oF f m 0) dd)) rfl (by omega) (wl_take hC (by omega) (by omega) ⟨by omega, by omega⟩ hi ho hk2 hx hB c51) (Or.inr ⟨m, dd, hi, rfl, by rw [wkS_eq (n := x.1) (x := x.2) (by omega)]⟩)
            · skip
              have hmm2 := kWf_m hC.2.2 hi2.1 hi2.2.1
              have hmd2 := kWf_d hC.2.2 hi2.1 hi2.2.1 hi2.2.2.1 hi2.2.2.2
              have hrm2 := kWf_room hC.2.2 (r := dF f m2 d2 3) (by omega) (by omega)
              refine k_loc (L' := [some (.ref pl), some (.int (iI p)), some (.int (iI k)), some (.ref (gDl γ k)), some (.int (iI x.1)), some (.ref (gDt γ (oF f m2 0) d2)), some (.int (iI ((i : Nat) : Int))), some (.ref (gDt γ (oF f m 0) dd))]) (by rw [hb1]; rfl) ?_
              refine k_aload (pc1 := 56) dX5_walks_54 rfl rfl ?_
              refine k_ifnull (pc1 := 59) dX5_walks_56 rfl ?_
              refine k_aload (pc1 := 61) dX5_walks_59 rfl rfl ?_
              refine k_get (pc1 := 64) dX5_walks_61 rfl fd_RX5_190 (rp_D hC hi2) (v := .ref (gRm γ (dF f m2 d2 3))) rfl ?_
              refine k_get (pc1 := 67) dX5_walks_64 rfl fd_RX5_55 (rp_R hC (r := dF f m2 d2 3) (by omega) (by omega)) (v := .int (iI (f (9 + (dF f m2 d2 3)).toNat))) rfl ?_
              refine k_aload (pc1 := 69) dX5_walks_67 rfl rfl ?_
              refine k_get (pc1 := 72) dX5_walks_69 rfl fd_RX5_190 (rp_D hC hi) (v := .ref (gRm γ (dF f m dd 3))) rfl ?_
              refine k_get (pc1 := 75) dX5_walks_72 rfl fd_RX5_55 (rp_R hC (r := dF f m dd 3) (by omega) (by omega)) (v := .int (iI (f (9 + (dF f m dd 3)).toNat))) rfl ?_
              refine k_icmp_eq (a := (f (9 + (dF f m2 d2 3)).toNat)) (b := (f (9 + (dF f m dd 3)).toNat)) dX5_walks_75 rfl (tgt := 81) rfl (by omega) (by omega) (fun c75 : (f (9 + (dF f m2 d2 3)).toNat) = (f (9 + (dF f m dd 3)).toNat) => ?_) (fun c75 : (f (9 + (dF f m2 d2 3)).toNat) ≠ (f (9 + (dF f m dd 3)).toNat) => ?_)
              · skip
                refine k_aload (pc1 := 83) dX5_walks_81 rfl rfl ?_
                refine k_astore (pc1 := 85) dX5_walks_83 rfl (by decide) (k_loc (L' := [some (.ref pl), some (.int (iI p)), some (.int (iI k)), some (.ref (gDl γ k)), some (.int (iI x.1)), some (.ref (gDt γ (oF f m 0) dd)), some (.int (iI ((i : Nat) : Int))), some (.ref (gDt γ (oF f m 0) dd))]) rfl ?_)
                refine k_iinc (a := ((i : Nat) : Int)) (pc1 := 88) dX5_walks_85 rfl rfl (by decide) (k_loc (L' := [some (.ref pl), some (.int (iI p)), some (.int (iI k)), some (.ref (gDl γ k)), some (.int (iI x.1)), some (.ref (gDt γ (oF f m 0) dd)), some (.int (iI (((i : Nat) : Int) + 1))), some (.ref (gDt γ (oF f m 0) dd))]) rfl ?_)
                refine k_goto dX5_walks_88 (tgt := 22) rfl ?_
                refine k_forget 7 (k_loc (L' := [some (.ref pl), some (.int (iI p)), some (.int (iI k)), some (.ref (gDl γ k)), some (.int (iI x.1)), some (.ref (gDt γ (oF f m 0) dd)), some (.int (iI (((i : Nat) : Int) + 1))), none]) rfl ?_)
                have e1 : (wkS (f (9 + dF f m dd 3).toNat) x).1 = x.1 := by
                  rw [wkS_eq (n := x.1) (x := x.2) (by omega)]
                  show kI _ _ _ = _
                  first | rw [kI_t (by omega)] | rw [kI_f (by omega)]
                refine k_loc (L' := [some (.ref pl), some (.int (iI p)), some (.int (iI k)), some (.ref (gDl γ k)), some (.int (iI ((wkS (f (9 + dF f m dd 3).toNat) x).1))), some (.ref (gDt γ (oF f m 0) dd)), some (.int (iI (((i : Nat) : Int) + 1))), none]) (by rw [e1]) ?_
                exact ih22 _ (by omega) (i + 1) _ (wkS (f (9 + dF f m dd 3).toNat) x) (some (gDt γ (oF f m 0) dd)) rfl (by omega) (wl_take hC (by omega) (by omega) ⟨by omega, by omega⟩ hi ho hk2 hx hB c51) (Or.inr ⟨m, dd, hi, rfl, by rw [wkS_eq (n := x.1) (x := x.2) (by omega)]⟩)
              · skip
                refine k_iinc (a := x.1) (pc1 := 81) dX5_walks_78 rfl rfl (by decide) (k_loc (L' := [some (.ref pl), some (.int (iI p)), some (.int (iI k)), some (.ref (gDl γ k)), some (.int (iI (x.1 + 1))), some (.ref (gDt γ (oF f m2 0) d2)), some (.int (iI ((i : Nat) : Int))), some (.ref (gDt γ (oF f m 0) dd))]) rfl ?_)
                refine k_aload (pc1 := 83) dX5_walks_81 rfl rfl ?_
                refine k_astore (pc1 := 85) dX5_walks_83 rfl (by decide) (k_loc (L' := [some (.ref pl), some (.int (iI p)), some (.int (iI k)), some (.ref (gDl γ k)), some (.int (iI (x.1 + 1))), some (.ref (gDt γ (oF f m 0) dd)), some (.int (iI ((i : Nat) : Int))), some (.ref (gDt γ (oF f m 0) dd))]) rfl ?_)
                refine k_iinc (a := ((i : Nat) : Int)) (pc1 := 88) dX5_walks_85 rfl rfl (by decide) (k_loc (L' := [some (.ref pl), some (.int (iI p)), some (.int (iI k)), some (.ref (gDl γ k)), some (.int (iI (x.1 + 1))), some (.ref (gDt γ (oF f m 0) dd)), some (.int (iI (((i : Nat) : Int) + 1))), some (.ref (gDt γ (oF f m 0) dd))]) rfl ?_)
                refine k_goto dX5_walks_88 (tgt := 22) rfl ?_
                refine k_forget 7 (k_loc (L' := [some (.ref pl), some (.int (iI p)), some (.int (iI k)), some (.ref (gDl γ k)), some (.int (iI (x.1 + 1))), some (.ref (gDt γ (oF f m 0) dd)), some (.int (iI (((i : Nat) : Int) + 1))), none]) rfl ?_)
                have e1 : (wkS (f (9 + dF f m dd 3).toNat) x).1 = (x.1 + 1) := by
                  rw [wkS_eq (n := x.1) (x := x.2) (by omega)]
                  show kI _ _ _ = _
                  first | rw [kI_t (by omega)] | rw [kI_f (by omega)]
                refine k_loc (L' := [some (.ref pl), some (.int (iI p)), some (.int (iI k)), some (.ref (gDl γ k)), some (.int (iI ((wkS (f (9 + dF f m dd 3).toNat) x).1))), some (.ref (gDt γ (oF f m 0) dd)), some (.int (iI (((i : Nat) : Int) + 1))), none]) (by rw [e1]) ?_
                exact ih22 _ (by omega) (i + 1) _ (wkS (f (9 + dF f m dd 3).toNat) x) (some (gDt γ (oF f m 0) dd)) rfl (by omega) (wl_take hC (by omega) (by omega) ⟨by omega, by omega⟩ hi ho hk2 hx hB c51) (Or.inr ⟨m, dd, hi, rfl, by rw [wkS_eq (n := x.1) (x := x.2) (by omega)]⟩)
      exact hloop22 _ 0 0 (0, -1) none rfl (by omega) wl_0 (Or.inl ⟨rfl, rfl⟩)
    · skip
      refine k_callV dX5_walks_6 rfl lk_RX5_242 o_X5_dayWith (as := [.int (iI k)]) rfl rfl (rp_P hC) rfl rfl (w_dyN hl hC (by omega) (by omega)) (by decide) (by decide) (by decide) (by decide) (k8 rfl) (fun v h9 z => z.elim) (fun E h9 z => kx_out rfl ?_)
      obtain ⟨hv1, hv2⟩ := z
      subst hv1
      rw [hv2]
      exact (kOn_mk (c := 1) (v := 0) (f' := f) (by first | exact kI_t (by first | omega | assumption) | exact kI_f (by first | omega | assumption)) (by decide) rfl (kSt_rf hC))
  · skip
    refine k_callS dX5_walks_1 rfl rfl lk_RX5_58 o_X5_requirePerson (as := [.int (iI p)]) rfl rfl (w_rpN hl (by omega) hq1) (by decide) (by decide) (by decide) (by decide) (k8 rfl) (fun v h9 z => z.elim) (fun E h9 z => kx_out rfl ?_)
    obtain ⟨hv1, hv2⟩ := z
    subst hv1
    rw [hv2]
    exact (kOn_mk (c := 1) (v := 0) (f' := f) (by first | exact kI_t (by first | omega | assumption) | exact kI_f (by first | omega | assumption)) (by decide) rfl (kSt_rf hC))
theorem wf_bp {f : Nat → Int} (hW : kWf f) {m d k : Int} (hi : inP f m d) (ho : onF f m d) (hk : dF f m d 0 = k) {ak no : Nat} {hst : Int} (he : exM hst ak no = ppF f m) : ((kan (bpF f m d k (dF f m d 1) (oF f m 2)) (exM hst ak no) : Nat) : Int) = 0 := by
  by_cases c : ((kan (bpF f m d k (dF f m d 1) (oF f m 2)) (exM hst ak no) : Nat) : Int) = 0
  · exact c
  · obtain ⟨p, hp, h1, h2⟩ := (kand_ne (kmk_lt _ 6)).mp c
    rw [he, ppF_bit hp] at h2
    obtain ⟨-, m', d', u1, ⟨u2, u3, u4⟩, u5, u6⟩ := (kmk_bit _ 6 p).mp h1
    have g1 := kWf_m hW hi.1 hi.2.1
    have g2 := kWf_m hW u1.1 u1.2.1
    have b := btF_neg.mp u5
    exact absurd ⟨u6, h2⟩ ((hW.2.2.2.2.2.2.2.2.2.2 m' d' m d u1.1 u1.2.1 u1.2.2.1 u1.2.2.2 hi.1 hi.2.1 hi.2.2.1 hi.2.2.2 u4 u2 ho (u3.trans hk.symm) (by omega) (by omega)).2 (p : Int) (by omega) (by omega))
theorem wf_tk {f : Nat → Int} (hW : kWf f) {m d k : Int} (hi : inP f m d) (ho : onF f m d) (hk : dF f m d 0 = k) : ¬ tkF f m d (dF f m d 3) k (dF f m d 1) (oF f m 2) := by
  rintro ⟨m', d', u1, ⟨u2, u3, u4⟩, u5, u6⟩
  have g1 := kWf_m hW hi.1 hi.2.1
  have g2 := kWf_m hW u1.1 u1.2.1
  have b := btF_neg.mp u6
  exact absurd u5 (hW.2.2.2.2.2.2.2.2.2.2 m' d' m d u1.1 u1.2.1 u1.2.2.1 u1.2.2.2 hi.1 hi.2.1 hi.2.2.1 hi.2.2.2 u4 u2 ho (u3.trans hk.symm) (by omega) (by omega)).1
theorem w_hdu {l : Launch} {G : kG} {h : kAH} (hl : l.stackTraces = false) {pl : Nat} {γ : kGh} {A : kAb} {f : Nat → Int} (hC : kRp G h pl γ A f) {k : Int} (hk : 0 ≤ k ∧ k < 28) : kC l G m_X5_hasDoubleUse 5 0 0 [.ref pl, .int (iI k)] h (kPq (.int (iI 0)) h) kNo := by
  refine kC_of hl rfl rfl (Nat.le_of_ble_eq_true rfl) (L := [some (.ref pl), some (.int (iI k)), none, none, none, none]) rfl ?_
  refine k_aload_n (pc1 := 1) dX5_hasDoubleUse_0 rfl rfl ?_
  refine k_iload_n (pc1 := 2) dX5_hasDoubleUse_1 rfl rfl ?_
  refine k_callVP dX5_hasDoubleUse_2 rfl lk_RX5_242 o_X5_dayWith (w_dyY hl hC ⟨by omega, by omega⟩) (as := [.int (iI k)]) (rp_P hC) rfl rfl rfl rfl (by decide) (by decide) (k8 rfl) ?_
  obtain ⟨arD, cD, hDl⟩ := rp_Dl hC (k := k) (by omega) (by omega)
  obtain ⟨mcD, hDa⟩ := hDl.1
  have hlen := rp_len hC (k := k) (by omega) (by omega)
  refine k_get (pc1 := 8) dX5_hasDoubleUse_5 rfl fd_RX5_246 (rp_Dy hC (by omega) (by omega)) (v := .ref (gDl γ k)) rfl ?_
  refine k_astore_n (pc1 := 9) dX5_hasDoubleUse_8 rfl (by decide) (k_loc (L' := [some (.ref pl), some (.int (iI k)), some (.ref (gDl γ k)), none, none, none]) rfl ?_)
  refine k_iconst (pc1 := 10) dX5_hasDoubleUse_9 rfl ?_
  refine k_istore_n (pc1 := 11) dX5_hasDoubleUse_10 rfl (by decide) (k_loc (L' := [some (.ref pl), some (.int (iI k)), some (.ref (gDl γ k)), some (.int (iI 0)), none, none]) rfl ?_)
  have hloop11 : ∀ (zz : Nat) (i : Nat), zz = (aDx A k).length - i → (i ≤ (aDx A k).length) → kW l G m_X5_hasDoubleUse 5 (kPq (.int (iI 0)) h) kNo 0 0 11 [some (.ref pl), some (.int (iI k)), some (.ref (gDl γ k)), some (.int (iI ((i : Nat) : Int))), none, none] [] h := by
    intro zz
    induction zz using Nat.strongRecOn with
    | ind zz ih11 =>
    intro i hr11 hi9
    refine k_iload_n (pc1 := 12) dX5_hasDoubleUse_11 rfl rfl ?_
    refine k_aload_n (pc1 := 13) dX5_hasDoubleUse_12 rfl rfl ?_
    refine k_callVP dX5_hasDoubleUse_13 rfl lk_RX5_65 o_Jx4a65c_size_8abf5 (w_lsz hl hDl) (as := []) hDa rfl rfl rfl rfl (by decide) (by decide) (k8 rfl) ?_
    refine k_val (v' := .int (iI (((aDx A k).length : Nat) : Int))) (congrArg (fun z : Nat => Value.int (iI (z : Int))) (List.length_map _)) ?_
    refine k_icmp_ge (a := ((i : Nat) : Int)) (b := (((aDx A k).length : Nat) : Int)) dX5_hasDoubleUse_16 rfl (tgt := 83) rfl (by omega) (by omega) (fun c16 : (((aDx A k).length : Nat) : Int) ≤ ((i : Nat) : Int) => ?_) (fun c16 : ((i : Nat) : Int) < (((aDx A k).length : Nat) : Int) => ?_)
    · skip
      refine k_iconst (pc1 := 84) dX5_hasDoubleUse_83 rfl ?_
      exact k_iret dX5_hasDoubleUse_84 rfl rfl (kret rfl _)
    · skip
      obtain ⟨m, dd, hi, ho, hk2, hx⟩ := rp_at hC (k := k) (by omega) (by omega) (i := i) (by omega)
      have hmm := kWf_m hC.2.2 hi.1 hi.2.1
      have hmd := kWf_d hC.2.2 hi.1 hi.2.1 hi.2.2.1 hi.2.2.2
      have hmx := rp_Mx hC hi.1 hi.2.1
      refine k_aload_n (pc1 := 20) dX5_hasDoubleUse_19 rfl rfl ?_
      refine k_iload_n (pc1 := 21) dX5_hasDoubleUse_20 rfl rfl ?_
      refine k_callVP dX5_hasDoubleUse_21 rfl lk_RX5_131 o_Jx4a65c_get_915e3 (w_lgt hl hDl ((i : Nat) : Int) ⟨by omega, by rw [List.length_map _]; omega⟩ (by rw [show ((((i : Nat) : Int)) : Int).toNat = i from rfl, List.getElem?_map, hx]; rfl)) (as := [.int (iI ((i : Nat) : Int))]) hDa rfl rfl rfl rfl (by decide) (by decide) (k8 rfl) ?_
      refine k_cast (r := (RX0, TX0, 4)) (pc1 := 27) dX5_hasDoubleUse_24 rfl cl_RX5_109 (rp_D hC hi) rfl ?_
      refine k_astore (pc1 := 29) dX5_hasDoubleUse_27 rfl (by decide) (k_loc (L' := [some (.ref pl), some (.int (iI k)), some (.ref (gDl γ k)), some (.int (iI ((i : Nat) : Int))), some (.ref (gDt γ (oF f m 0) dd)), none]) rfl ?_)
      refine k_aload_n (pc1 := 30) dX5_hasDoubleUse_29 rfl rfl ?_
      refine k_aload (pc1 := 32) dX5_hasDoubleUse_30 rfl rfl ?_
      refine k_get (pc1 := 35) dX5_hasDoubleUse_32 rfl fd_RX5_108 (rp_D hC hi) (v := .ref (gSt γ (oF f m 0) dd)) rfl ?_
      refine k_aload (pc1 := 37) dX5_hasDoubleUse_35 rfl rfl ?_
      refine k_callVP dX5_hasDoubleUse_37 rfl lk_RX5_304 o_X5_busyPeople (w_busyP hl hC (rp_S hC hi) ⟨by omega, by omega⟩ ⟨by omega, by omega⟩ ⟨by omega, by omega⟩ (lo := some (gDt γ (oF f m 0) dd)) (kLv_of hC hi)) (as := [.ref (gSt γ (oF f m 0) dd), .ref (gDt γ (oF f m 0) dd)]) (rp_P hC) rfl rfl rfl rfl (by decide) (by decide) (k8 rfl) ?_
      refine k_aload (pc1 := 42) dX5_hasDoubleUse_40 rfl rfl ?_
      refine k_get (pc1 := 45) dX5_hasDoubleUse_42 rfl fd_RX5_218 (rp_D hC hi) (v := .ref (gMt γ (oF f m 0))) rfl ?_
      have hxl := exM_lt (no := aNo A (oF f m 0)) (show 0 ≤ oF f m 1 ∧ oF f m 1 < 6 by omega) hmx.1
      refine k_callVP dX5_hasDoubleUse_45 rfl lk_RX5_308 o_X2_expectedPeople (w_X2_expectedPeople hl (rp_M hC hi.1 hi.2.1) ⟨by omega, by omega⟩ hmx.1 hmx.2.1 hmx.2.2.1) (as := []) (rp_M hC hi.1 hi.2.1) rfl rfl rfl rfl (by decide) (by decide) (k8 rfl) ?_
      refine k_iand (pc1 := 49) dX5_hasDoubleUse_48 rfl (k_val (v' := .int (iI (((kan (bpF f m dd (dF f m dd 0) (dF f m dd 1) (oF f m 2)) (exM (oF f m 1) (aAk A (oF f m 0)) (aNo A (oF f m 0)))) : Nat) : Int))) (congrArg Value.int iI_and) ?_)
      have hz := wf_bp hC.2.2 hi ho (rfl : dF f m dd 0 = dF f m dd 0) (rp_ex hC hi.1 hi.2.1)
      refine k_val (v' := .int (iI 0)) (congrArg (fun z => Value.int (iI z)) hz) ?_
      refine k_istore (pc1 := 51) dX5_hasDoubleUse_49 rfl (by decide) (k_loc (L' := [some (.ref pl), some (.int (iI k)), some (.ref (gDl γ k)), some (.int (iI ((i : Nat) : Int))), some (.ref (gDt γ (oF f m 0) dd)), some (.int (iI 0))]) rfl ?_)
      refine k_iload (pc1 := 53) dX5_hasDoubleUse_51 rfl rfl ?_
      refine k_if_ne (a := 0) dX5_hasDoubleUse_53 rfl (tgt := 75) rfl (by decide) (fun c => absurd c (by decide)) (fun _ => ?_)
      refine k_aload_n (pc1 := 57) dX5_hasDoubleUse_56 rfl rfl ?_
      refine k_aload (pc1 := 59) dX5_hasDoubleUse_57 rfl rfl ?_
      refine k_get (pc1 := 62) dX5_hasDoubleUse_59 rfl fd_RX5_190 (rp_D hC hi) (v := .ref (gRm γ (dF f m dd 3))) rfl ?_
      refine k_aload (pc1 := 64) dX5_hasDoubleUse_62 rfl rfl ?_
      refine k_get (pc1 := 67) dX5_hasDoubleUse_64 rfl fd_RX5_108 (rp_D hC hi) (v := .ref (gSt γ (oF f m 0) dd)) rfl ?_
      refine k_aload (pc1 := 69) dX5_hasDoubleUse_67 rfl rfl ?_
      refine k_callVP dX5_hasDoubleUse_69 rfl lk_RX5_341 o_X5_isTaken (w_isTk hl hC (rm := (dF f m dd 3)) ⟨by omega, by omega⟩ (rp_S hC hi) ⟨by omega, by omega⟩ ⟨by omega, by omega⟩ ⟨by omega, by omega⟩ (lo := some (gDt γ (oF f m 0) dd)) (kLv_of hC hi)) (as := [.ref (gRm γ (dF f m dd 3)), .ref (gSt γ (oF f m 0) dd), .ref (gDt γ (oF f m 0) dd)]) (rp_P hC) rfl rfl rfl rfl (by decide) (by decide) (k8 rfl) ?_
      refine k_if_eq (a := kB (tkF f m dd (dF f m dd 3) (dF f m dd 0) (dF f m dd 1) (oF f m 2))) dX5_hasDoubleUse_72 rfl (tgt := 77) rfl (kB_r _) (fun c72 : kB (tkF f m dd (dF f m dd 3) (dF f m dd 0) (dF f m dd 1) (oF f m 2)) = 0 => ?_) (fun c72 : kB (tkF f m dd (dF f m dd 3) (dF f m dd 0) (dF f m dd 1) (oF f m 2)) ≠ 0 => ?_)
      · replace c72 : ¬(tkF f m dd (dF f m dd 3) (dF f m dd 0) (dF f m dd 1) (oF f m 2)) := kB_z.mp c72
        refine k_iinc (a := ((i : Nat) : Int)) (pc1 := 80) dX5_hasDoubleUse_77 rfl rfl (by decide) (k_loc (L' := [some (.ref pl), some (.int (iI k)), some (.ref (gDl γ k)), some (.int (iI (((i : Nat) : Int) + 1))), some (.ref (gDt γ (oF f m 0) dd)), some (.int (iI 0))]) rfl ?_)
        refine k_goto dX5_hasDoubleUse_80 (tgt := 11) rfl ?_
        refine k_forget 4 (k_loc (L' := [some (.ref pl), some (.int (iI k)), some (.ref (gDl γ k)), some (.int (iI (((i : Nat) : Int) + 1))), none, some (.int (iI 0))]) rfl ?_)
        refine k_forget 5 (k_loc (L' := [some (.ref pl), some (.int (iI k)), some (.ref (gDl γ k)), some (.int (iI (((i : Nat) : Int) + 1))), none, none]) rfl ?_)
        exact ih11 _ (by omega) (i + 1) rfl (by omega)
      · replace c72 : (tkF f m dd (dF f m dd 3) (dF f m dd 0) (dF f m dd 1) (oF f m 2)) := kB_nz.mp c72
        refine k_iconst (pc1 := 76) dX5_hasDoubleUse_75 rfl ?_
        exact absurd c72 (wf_tk hC.2.2 hi ho rfl)
  exact hloop11 _ 0 rfl (by omega)
theorem w_cag {l : Launch} {G : kG} {h : kAH} (hl : l.stackTraces = false) {pl : Nat} {γ : kGh} {A : kAb} {f : Nat → Int} (hC : kRp G h pl γ A f) {k : Int} (hk : 0 ≤ k ∧ k < 28) : kC l G m_X5_countsAgree 6 0 0 [.ref pl, .int (iI k)] h (kPq (.int (iI 1)) h) kNo := by
  refine kC_of hl rfl rfl (Nat.le_of_ble_eq_true rfl) (L := [some (.ref pl), some (.int (iI k)), none]) rfl ?_
  refine k_iconst (pc1 := 1) dX5_countsAgree_0 rfl ?_
  refine k_istore_n (pc1 := 2) dX5_countsAgree_1 rfl (by decide) (k_loc (L' := [some (.ref pl), some (.int (iI k)), some (.int (iI 0))]) rfl ?_)
  have hloop2 : ∀ (zz : Nat) (i : Nat), zz = 6 - i → (i ≤ 6) → kW l G m_X5_countsAgree 6 (kPq (.int (iI 1)) h) kNo 0 0 2 [some (.ref pl), some (.int (iI k)), some (.int (iI ((i : Nat) : Int)))] [] h := by
    intro zz
    induction zz using Nat.strongRecOn with
    | ind zz ih2 =>
    intro i hr2 hi9
    refine k_iload_n (pc1 := 3) dX5_countsAgree_2 rfl rfl ?_
    refine k_bipush 6 (pc1 := 5) dX5_countsAgree_3 rfl (by decide) ?_
    refine k_icmp_ge (a := ((i : Nat) : Int)) (b := 6) dX5_countsAgree_5 rfl (tgt := 31) rfl (by omega) (by decide) (fun c5 : 6 ≤ ((i : Nat) : Int) => ?_) (fun c5 : ((i : Nat) : Int) < 6 => ?_)
    · skip
      refine k_iconst (pc1 := 32) dX5_countsAgree_31 rfl ?_
      exact k_iret dX5_countsAgree_32 rfl rfl (kret rfl _)
    · skip
      refine k_aload_n (pc1 := 9) dX5_countsAgree_8 rfl rfl ?_
      refine k_iload_n (pc1 := 10) dX5_countsAgree_9 rfl rfl ?_
      refine k_iload_n (pc1 := 11) dX5_countsAgree_10 rfl rfl ?_
      refine k_callVP dX5_countsAgree_11 rfl lk_RX5_222 o_X5_countFreeBySweep (w_cswp hl hC (p := ((i : Nat) : Int)) (k := k) ⟨by omega, by omega⟩ ⟨by omega, by omega⟩) (as := [.int (iI ((i : Nat) : Int)), .int (iI k)]) (rp_P hC) rfl rfl rfl rfl (by decide) (by decide) (k8 rfl) ?_
      refine k_aload_n (pc1 := 15) dX5_countsAgree_14 rfl rfl ?_
      refine k_iload_n (pc1 := 16) dX5_countsAgree_15 rfl rfl ?_
      refine k_iload_n (pc1 := 17) dX5_countsAgree_16 rfl rfl ?_
      refine k_callVP dX5_countsAgree_17 rfl lk_RX5_226 o_X5_countFreeByTrying (w_ctry hl hC (p := ((i : Nat) : Int)) (k := k) ⟨by omega, by omega⟩ ⟨by omega, by omega⟩) (as := [.int (iI ((i : Nat) : Int)), .int (iI k)]) (rp_P hC) rfl rfl rfl rfl (by decide) (by decide) (k8 rfl) ?_
      have hkr : 0 * (16 : Nat) ≤ ksm (fun t => kB (frF f ((i : Nat) : Int) k (t : Int))) 16 ∧ ksm (fun t => kB (frF f ((i : Nat) : Int) k (t : Int))) 16 ≤ 1 * (16 : Nat) := ksm_rng (lo := 0) (hi := 1) (fun j _ => kB_rng _)
      refine k_icmp_eq (a := (ksm (fun t => kB (frF f ((i : Nat) : Int) k (t : Int))) 16)) (b := (ksm (fun t => kB (frF f ((i : Nat) : Int) k (t : Int))) 16)) dX5_countsAgree_20 rfl (tgt := 25) rfl (by omega) (by omega) (fun c20 : (ksm (fun t => kB (frF f ((i : Nat) : Int) k (t : Int))) 16) = (ksm (fun t => kB (frF f ((i : Nat) : Int) k (t : Int))) 16) => ?_) (fun c20 : (ksm (fun t => kB (frF f ((i : Nat) : Int) k (t : Int))) 16) ≠ (ksm (fun t => kB (frF f ((i : Nat) : Int) k (t : Int))) 16) => ?_)
      · skip
        refine k_iinc (a := ((i : Nat) : Int)) (pc1 := 28) dX5_countsAgree_25 rfl rfl (by decide) (k_loc (L' := [some (.ref pl), some (.int (iI k)), some (.int (iI (((i : Nat) : Int) + 1)))]) rfl ?_)
        refine k_goto dX5_countsAgree_28 (tgt := 2) rfl ?_
        exact ih2 _ (by omega) (i + 1) rfl (by omega)
      · skip
        refine k_iconst (pc1 := 24) dX5_countsAgree_23 rfl ?_
        exact absurd rfl c20
  exact hloop2 _ 0 rfl (by omega)
theorem w_X5_isConsistent {l : Launch} {G : kG} {h : kAH} (hl : l.stackTraces = false) {pl : Nat} {γ : kGh} {A : kAb} {f : Nat → Int} (hC : kRp G h pl γ A f)  : kC l G m_X5_isConsistent 7 1 6 [.ref pl] h (kOy G pl γ h (((0, 1, f) : kT))) (kOn G pl γ h (((0, 1, f) : kT)) [""]) := by
  have h8 := kWf_cnt hC.2.2
  refine kC_of hl rfl rfl (Nat.le_of_ble_eq_true rfl) (L := [some (.ref pl), none]) rfl ?_
  refine k_iconst (pc1 := 1) dX5_isConsistent_0 rfl ?_
  refine k_istore_n (pc1 := 2) dX5_isConsistent_1 rfl (by decide) (k_loc (L' := [some (.ref pl), some (.int (iI 0))]) rfl ?_)
  have hloop2 : ∀ (zz : Nat) (i : Nat), zz = 28 - i → (i ≤ 28) → kW l G m_X5_isConsistent 7 (kOy G pl γ h (((0, 1, f) : kT))) (kOn G pl γ h (((0, 1, f) : kT)) [""]) 1 6 2 [some (.ref pl), some (.int (iI ((i : Nat) : Int)))] [] h := by
    intro zz
    induction zz using Nat.strongRecOn with
    | ind zz ih2 =>
    intro i hr2 hi9
    refine k_iload_n (pc1 := 3) dX5_isConsistent_2 rfl rfl ?_
    refine k_bipush 28 (pc1 := 5) dX5_isConsistent_3 rfl (by decide) ?_
    refine k_icmp_ge (a := ((i : Nat) : Int)) (b := 28) dX5_isConsistent_5 rfl (tgt := 32) rfl (by omega) (by decide) (fun c5 : 28 ≤ ((i : Nat) : Int) => ?_) (fun c5 : ((i : Nat) : Int) < 28 => ?_)
    · skip
      refine k_iconst (pc1 := 33) dX5_isConsistent_32 rfl ?_
      exact k_iret dX5_isConsistent_33 rfl rfl (kOy_mk (v := 1) (f' := f) (by rfl) (kSt_rf hC))
    · skip
      refine k_aload_n (pc1 := 9) dX5_isConsistent_8 rfl rfl ?_
      refine k_iload_n (pc1 := 10) dX5_isConsistent_9 rfl rfl ?_
      refine k_callVP dX5_isConsistent_10 rfl lk_RX5_272 o_X5_hasDoubleUse (w_hdu hl hC (k := ((i : Nat) : Int)) ⟨by omega, by omega⟩) (as := [.int (iI ((i : Nat) : Int))]) (rp_P hC) rfl rfl rfl rfl (by decide) (by decide) (k8 rfl) ?_
      refine k_if_ne (a := 0) dX5_isConsistent_13 rfl (tgt := 24) rfl (by decide) (fun c => absurd c (by decide)) (fun _ => ?_)
      refine k_aload_n (pc1 := 17) dX5_isConsistent_16 rfl rfl ?_
      refine k_iload_n (pc1 := 18) dX5_isConsistent_17 rfl rfl ?_
      refine k_callVP dX5_isConsistent_18 rfl lk_RX5_275 o_X5_countsAgree (w_cag hl hC (k := ((i : Nat) : Int)) ⟨by omega, by omega⟩) (as := [.int (iI ((i : Nat) : Int))]) (rp_P hC) rfl rfl rfl rfl (by decide) (by decide) (k8 rfl) ?_
      refine k_if_ne (a := 1) dX5_isConsistent_21 rfl (tgt := 26) rfl (by decide) (fun _ => ?_) (fun c => absurd c (by decide))
      refine k_iinc (a := ((i : Nat) : Int)) (pc1 := 29) dX5_isConsistent_26 rfl rfl (by decide) (k_loc (L' := [some (.ref pl), some (.int (iI (((i : Nat) : Int) + 1)))]) rfl ?_)
      refine k_goto dX5_isConsistent_29 (tgt := 2) rfl ?_
      exact ih2 _ (by omega) (i + 1) rfl (by omega)
  exact hloop2 _ 0 rfl (by omega)
