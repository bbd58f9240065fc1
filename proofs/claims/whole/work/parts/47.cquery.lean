/-! ===== the class: the date of a person, sweeps; its queries, walked ===== -/
theorem w_dpN {l : Launch} {G : kG} {h : kAH} (hl : l.stackTraces = false) {pl : Nat} {γ : kGh} {A : kAb} {f : Nat → Int} (hC : kRp G h pl γ A f) {p k t : Int} (hp : 0 ≤ p ∧ p < 6) (hk : 0 ≤ k ∧ k < 28) (ht : 0 ≤ t ∧ t < 16) (hf : frF f p k t) : kC l G m_X5_dateOfPersonAt 4 0 0 [.ref pl, .int (iI p), .int (iI k), .int (iI t)] h (kPq .null h) kNo := by
  refine kC_of hl rfl rfl (Nat.le_of_ble_eq_true rfl) (L := [some (.ref pl), some (.int (iI p)), some (.int (iI k)), some (.int (iI t)), none, none, none]) rfl ?_
  refine k_aload_n (pc1 := 1) dX5_dateOfPersonAt_0 rfl rfl ?_
  refine k_iload_n (pc1 := 2) dX5_dateOfPersonAt_1 rfl rfl ?_
  refine k_callVP dX5_dateOfPersonAt_2 rfl lk_RX5_242 o_X5_dayWith (w_dyY hl hC ⟨by omega, by omega⟩) (as := [.int (iI k)]) (rp_P hC) rfl rfl rfl rfl (by decide) (by decide) (k8 rfl) ?_
  obtain ⟨arD, cD, hDl⟩ := rp_Dl hC (k := k) (by omega) (by omega)
  obtain ⟨mcD, hDa⟩ := hDl.1
  have hlen := rp_len hC (k := k) (by omega) (by omega)
  refine k_get (pc1 := 8) dX5_dateOfPersonAt_5 rfl fd_RX5_246 (rp_Dy hC (by omega) (by omega)) (v := .ref (gDl γ k)) rfl ?_
  refine k_astore (pc1 := 10) dX5_dateOfPersonAt_8 rfl (by decide) (k_loc (L' := [some (.ref pl), some (.int (iI p)), some (.int (iI k)), some (.int (iI t)), some (.ref (gDl γ k)), none, none]) rfl ?_)
  refine k_iconst (pc1 := 11) dX5_dateOfPersonAt_10 rfl ?_
  refine k_istore (pc1 := 13) dX5_dateOfPersonAt_11 rfl (by decide) (k_loc (L' := [some (.ref pl), some (.int (iI p)), some (.int (iI k)), some (.int (iI t)), some (.ref (gDl γ k)), some (.int (iI 0)), none]) rfl ?_)
  have hloop13 : ∀ (zz : Nat) (i : Nat), zz = (aDx A k).length - i → (i ≤ (aDx A k).length) → (dnI A f k (fun m d => maP f p k t m d) i) → kW l G m_X5_dateOfPersonAt 4 (kPq .null h) kNo 0 0 13 [some (.ref pl), some (.int (iI p)), some (.int (iI k)), some (.int (iI t)), some (.ref (gDl γ k)), some (.int (iI ((i : Nat) : Int))), none] [] h := by
    intro zz
    induction zz using Nat.strongRecOn with
    | ind zz ih13 =>
    intro i hr13 hi9 hB
    refine k_iload (pc1 := 15) dX5_dateOfPersonAt_13 rfl rfl ?_
    refine k_aload (pc1 := 17) dX5_dateOfPersonAt_15 rfl rfl ?_
    refine k_callVP dX5_dateOfPersonAt_17 rfl lk_RX5_65 o_Jx4a65c_size_8abf5 (w_lsz hl hDl) (as := []) hDa rfl rfl rfl rfl (by decide) (by decide) (k8 rfl) ?_
    refine k_val (v' := .int (iI (((aDx A k).length : Nat) : Int))) (congrArg (fun z : Nat => Value.int (iI (z : Int))) (List.length_map _)) ?_
    refine k_icmp_ge (a := ((i : Nat) : Int)) (b := (((aDx A k).length : Nat) : Int)) dX5_dateOfPersonAt_20 rfl (tgt := 68) rfl (by omega) (by omega) (fun c20 : (((aDx A k).length : Nat) : Int) ≤ ((i : Nat) : Int) => ?_) (fun c20 : ((i : Nat) : Int) < (((aDx A k).length : Nat) : Int) => ?_)
    · skip
      refine k_null (pc1 := 69) dX5_dateOfPersonAt_68 rfl ?_
      exact k_aret dX5_dateOfPersonAt_69 rfl (Or.inl ⟨_, rfl⟩) (Or.inl rfl) ⟨rfl, rfl⟩
    · skip
      obtain ⟨m, dd, hi, ho, hk2, hx⟩ := rp_at hC (k := k) (by omega) (by omega) (i := i) (by omega)
      have hmm := kWf_m hC.2.2 hi.1 hi.2.1
      have hmd := kWf_d hC.2.2 hi.1 hi.2.1 hi.2.2.1 hi.2.2.2
      have hmx := rp_Mx hC hi.1 hi.2.1
      refine k_aload (pc1 := 25) dX5_dateOfPersonAt_23 rfl rfl ?_
      refine k_iload (pc1 := 27) dX5_dateOfPersonAt_25 rfl rfl ?_
      refine k_callVP dX5_dateOfPersonAt_27 rfl lk_RX5_131 o_Jx4a65c_get_915e3 (w_lgt hl hDl ((i : Nat) : Int) ⟨by omega, by rw [List.length_map _]; omega⟩ (by rw [show ((((i : Nat) : Int)) : Int).toNat = i from rfl, List.getElem?_map, hx]; rfl)) (as := [.int (iI ((i : Nat) : Int))]) hDa rfl rfl rfl rfl (by decide) (by decide) (k8 rfl) ?_
      refine k_cast (r := (RX0, TX0, 4)) (pc1 := 33) dX5_dateOfPersonAt_30 rfl cl_RX5_109 (rp_D hC hi) rfl ?_
      refine k_astore (pc1 := 35) dX5_dateOfPersonAt_33 rfl (by decide) (k_loc (L' := [some (.ref pl), some (.int (iI p)), some (.int (iI k)), some (.int (iI t)), some (.ref (gDl γ k)), some (.int (iI ((i : Nat) : Int))), some (.ref (gDt γ (oF f m 0) dd))]) rfl ?_)
      refine k_aload (pc1 := 37) dX5_dateOfPersonAt_35 rfl rfl ?_
      refine k_get (pc1 := 40) dX5_dateOfPersonAt_37 rfl fd_RX5_108 (rp_D hC hi) (v := .ref (gSt γ (oF f m 0) dd)) rfl ?_
      refine k_iload_n (pc1 := 41) dX5_dateOfPersonAt_40 rfl rfl ?_
      refine k_callVP dX5_dateOfPersonAt_41 rfl lk_RX5_345 o_X4_holds (w_X4_holds hl (rp_S hC hi) t ⟨by omega, by omega⟩ ⟨by omega, by omega⟩ ⟨by omega, by omega⟩) (as := [.int (iI t)]) (rp_S hC hi) rfl rfl rfl rfl (by decide) (by decide) (k8 rfl) ?_
      refine k_if_eq (a := kB ((dF f m dd 1) ≤ t ∧ t < (dF f m dd 1) + (oF f m 2))) dX5_dateOfPersonAt_44 rfl (tgt := 62) rfl (kB_r _) (fun c44 : kB ((dF f m dd 1) ≤ t ∧ t < (dF f m dd 1) + (oF f m 2)) = 0 => ?_) (fun c44 : kB ((dF f m dd 1) ≤ t ∧ t < (dF f m dd 1) + (oF f m 2)) ≠ 0 => ?_)
      · replace c44 : ¬((dF f m dd 1) ≤ t ∧ t < (dF f m dd 1) + (oF f m 2)) := kB_z.mp c44
        refine k_iinc (a := ((i : Nat) : Int)) (pc1 := 65) dX5_dateOfPersonAt_62 rfl rfl (by decide) (k_loc (L' := [some (.ref pl), some (.int (iI p)), some (.int (iI k)), some (.int (iI t)), some (.ref (gDl γ k)), some (.int (iI (((i : Nat) : Int) + 1))), some (.ref (gDt γ (oF f m 0) dd))]) rfl ?_)
        refine k_goto dX5_dateOfPersonAt_65 (tgt := 13) rfl ?_
        refine k_forget 6 (k_loc (L' := [some (.ref pl), some (.int (iI p)), some (.int (iI k)), some (.int (iI t)), some (.ref (gDl γ k)), some (.int (iI (((i : Nat) : Int) + 1))), none]) rfl ?_)
        exact ih13 _ (by omega) (i + 1) rfl (by omega) (dn_s hC hi hx hB (fun z => by have y := (ma_iff hC.2.2 hi ho hk2).mp z; first | exact c44 y.2 | exact c56 y.1))
      · replace c44 : ((dF f m dd 1) ≤ t ∧ t < (dF f m dd 1) + (oF f m 2)) := kB_nz.mp c44
        refine k_aload (pc1 := 49) dX5_dateOfPersonAt_47 rfl rfl ?_
        refine k_get (pc1 := 52) dX5_dateOfPersonAt_49 rfl fd_RX5_218 (rp_D hC hi) (v := .ref (gMt γ (oF f m 0))) rfl ?_
        refine k_iload_n (pc1 := 53) dX5_dateOfPersonAt_52 rfl rfl ?_
        refine k_callVP dX5_dateOfPersonAt_53 rfl lk_RX5_247 o_X2_expects (w_X2_expects hl (rp_M hC hi.1 hi.2.1) ⟨by omega, by omega⟩ hmx.1 hmx.2.1 hmx.2.2.1 p ⟨by omega, by omega⟩) (as := [.int (iI p)]) (rp_M hC hi.1 hi.2.1) rfl rfl rfl rfl (by decide) (by decide) (k8 rfl) ?_
        refine k_val (v' := .int (iI (kB (exF f m p)))) (congrArg (fun z => Value.int (iI z)) (kB_cg (rp_exp hC hi.1 hi.2.1 ⟨by omega, by omega⟩))) ?_
        refine k_if_eq (a := kB (exF f m p)) dX5_dateOfPersonAt_56 rfl (tgt := 62) rfl (kB_r _) (fun c56 : kB (exF f m p) = 0 => ?_) (fun c56 : kB (exF f m p) ≠ 0 => ?_)
        · replace c56 : ¬(exF f m p) := kB_z.mp c56
          refine k_iinc (a := ((i : Nat) : Int)) (pc1 := 65) dX5_dateOfPersonAt_62 rfl rfl (by decide) (k_loc (L' := [some (.ref pl), some (.int (iI p)), some (.int (iI k)), some (.int (iI t)), some (.ref (gDl γ k)), some (.int (iI (((i : Nat) : Int) + 1))), some (.ref (gDt γ (oF f m 0) dd))]) rfl ?_)
          refine k_goto dX5_dateOfPersonAt_65 (tgt := 13) rfl ?_
          refine k_forget 6 (k_loc (L' := [some (.ref pl), some (.int (iI p)), some (.int (iI k)), some (.int (iI t)), some (.ref (gDl γ k)), some (.int (iI (((i : Nat) : Int) + 1))), none]) rfl ?_)
          exact ih13 _ (by omega) (i + 1) rfl (by omega) (dn_s hC hi hx hB (fun z => by have y := (ma_iff hC.2.2 hi ho hk2).mp z; first | exact c44 y.2 | exact c56 y.1))
        · replace c56 : (exF f m p) := kB_nz.mp c56
          refine k_aload (pc1 := 61) dX5_dateOfPersonAt_59 rfl rfl ?_
          exact absurd ⟨m, dd, hi, (ma_iff hC.2.2 hi ho hk2).mpr ⟨c56, c44⟩⟩ ((frF_iff hp).mp hf)
  exact hloop13 _ 0 rfl (by omega) dn_0
theorem w_dpY {l : Launch} {G : kG} {h : kAH} (hl : l.stackTraces = false) {pl : Nat} {γ : kGh} {A : kAb} {f : Nat → Int} (hC : kRp G h pl γ A f) {p k t : Int} (hp : 0 ≤ p ∧ p < 6) (hk : 0 ≤ k ∧ k < 28) (ht : 0 ≤ t ∧ t < 16) (hf : ¬ frF f p k t) : kC l G m_X5_dateOfPersonAt 4 0 0 [.ref pl, .int (iI p), .int (iI k), .int (iI t)] h (fun v h' => (∃ m d : Int, inP f m d ∧ maP f p k t m d ∧ v = some (.ref (gDt γ (oF f m 0) d))) ∧ h' = h) kNo := by
  refine kC_of hl rfl rfl (Nat.le_of_ble_eq_true rfl) (L := [some (.ref pl), some (.int (iI p)), some (.int (iI k)), some (.int (iI t)), none, none, none]) rfl ?_
  refine k_aload_n (pc1 := 1) dX5_dateOfPersonAt_0 rfl rfl ?_
  refine k_iload_n (pc1 := 2) dX5_dateOfPersonAt_1 rfl rfl ?_
  refine k_callVP dX5_dateOfPersonAt_2 rfl lk_RX5_242 o_X5_dayWith (w_dyY hl hC ⟨by omega, by omega⟩) (as := [.int (iI k)]) (rp_P hC) rfl rfl rfl rfl (by decide) (by decide) (k8 rfl) ?_
  obtain ⟨arD, cD, hDl⟩ := rp_Dl hC (k := k) (by omega) (by omega)
  obtain ⟨mcD, hDa⟩ := hDl.1
  have hlen := rp_len hC (k := k) (by omega) (by omega)
  refine k_get (pc1 := 8) dX5_dateOfPersonAt_5 rfl fd_RX5_246 (rp_Dy hC (by omega) (by omega)) (v := .ref (gDl γ k)) rfl ?_
  refine k_astore (pc1 := 10) dX5_dateOfPersonAt_8 rfl (by decide) (k_loc (L' := [some (.ref pl), some (.int (iI p)), some (.int (iI k)), some (.int (iI t)), some (.ref (gDl γ k)), none, none]) rfl ?_)
  refine k_iconst (pc1 := 11) dX5_dateOfPersonAt_10 rfl ?_
  refine k_istore (pc1 := 13) dX5_dateOfPersonAt_11 rfl (by decide) (k_loc (L' := [some (.ref pl), some (.int (iI p)), some (.int (iI k)), some (.int (iI t)), some (.ref (gDl γ k)), some (.int (iI 0)), none]) rfl ?_)
  have hloop13 : ∀ (zz : Nat) (i : Nat), zz = (aDx A k).length - i → (i ≤ (aDx A k).length) → (dnI A f k (fun m d => maP f p k t m d) i) → kW l G m_X5_dateOfPersonAt 4 (fun v h' => (∃ m d : Int, inP f m d ∧ maP f p k t m d ∧ v = some (.ref (gDt γ (oF f m 0) d))) ∧ h' = h) kNo 0 0 13 [some (.ref pl), some (.int (iI p)), some (.int (iI k)), some (.int (iI t)), some (.ref (gDl γ k)), some (.int (iI ((i : Nat) : Int))), none] [] h := by
    intro zz
    induction zz using Nat.strongRecOn with
    | ind zz ih13 =>
    intro i hr13 hi9 hB
    refine k_iload (pc1 := 15) dX5_dateOfPersonAt_13 rfl rfl ?_
    refine k_aload (pc1 := 17) dX5_dateOfPersonAt_15 rfl rfl ?_
    refine k_callVP dX5_dateOfPersonAt_17 rfl lk_RX5_65 o_Jx4a65c_size_8abf5 (w_lsz hl hDl) (as := []) hDa rfl rfl rfl rfl (by decide) (by decide) (k8 rfl) ?_
    refine k_val (v' := .int (iI (((aDx A k).length : Nat) : Int))) (congrArg (fun z : Nat => Value.int (iI (z : Int))) (List.length_map _)) ?_
    refine k_icmp_ge (a := ((i : Nat) : Int)) (b := (((aDx A k).length : Nat) : Int)) dX5_dateOfPersonAt_20 rfl (tgt := 68) rfl (by omega) (by omega) (fun c20 : (((aDx A k).length : Nat) : Int) ≤ ((i : Nat) : Int) => ?_) (fun c20 : ((i : Nat) : Int) < (((aDx A k).length : Nat) : Int) => ?_)
    · skip
      refine k_null (pc1 := 69) dX5_dateOfPersonAt_68 rfl ?_
      exact absurd ((frF_iff hp).mpr (fun ⟨m, d, z1, z2⟩ => dn_e hC hk.1 hk.2 (by omega) hB z1 z2.2.1.1 z2.2.1.2.1 z2)) hf
    · skip
      obtain ⟨m, dd, hi, ho, hk2, hx⟩ := rp_at hC (k := k) (by omega) (by omega) (i := i) (by omega)
      have hmm := kWf_m hC.2.2 hi.1 hi.2.1
      have hmd := kWf_d hC.2.2 hi.1 hi.2.1 hi.2.2.1 hi.2.2.2
      have hmx := rp_Mx hC hi.1 hi.2.1
      refine k_aload (pc1 := 25) dX5_dateOfPersonAt_23 rfl rfl ?_
      refine k_iload (pc1 := 27) dX5_dateOfPersonAt_25 rfl rfl ?_
      refine k_callVP dX5_dateOfPersonAt_27 rfl lk_RX5_131 o_Jx4a65c_get_915e3 (w_lgt hl hDl ((i : Nat) : Int) ⟨by omega, by rw [List.length_map _]; omega⟩ (by rw [show ((((i : Nat) : Int)) : Int).toNat = i from rfl, List.getElem?_map, hx]; rfl)) (as := [.int (iI ((i : Nat) : Int))]) hDa rfl rfl rfl rfl (by decide) (by decide) (k8 rfl) ?_
      refine k_cast (r := (RX0, TX0, 4)) (pc1 := 33) dX5_dateOfPersonAt_30 rfl cl_RX5_109 (rp_D hC hi) rfl ?_
      refine k_astore (pc1 := 35) dX5_dateOfPersonAt_33 rfl (by decide) (k_loc (L' := [some (.ref pl), some (.int (iI p)), some (.int (iI k)), some (.int (iI t)), some (.ref (gDl γ k)), some (.int (iI ((i : Nat) : Int))), some (.ref (gDt γ (oF f m 0) dd))]) rfl ?_)
      refine k_aload (pc1 := 37) dX5_dateOfPersonAt_35 rfl rfl ?_
      refine k_get (pc1 := 40) dX5_dateOfPersonAt_37 rfl fd_RX5_108 (rp_D hC hi) (v := .ref (gSt γ (oF f m 0) dd)) rfl ?_
      refine k_iload_n (pc1 := 41) dX5_dateOfPersonAt_40 rfl rfl ?_
      refine k_callVP dX5_dateOfPersonAt_41 rfl lk_RX5_345 o_X4_holds (w_X4_holds hl (rp_S hC hi) t ⟨by omega, by omega⟩ ⟨by omega, by omega⟩ ⟨by omega, by omega⟩) (as := [.int (iI t)]) (rp_S hC hi) rfl rfl rfl rfl (by decide) (by decide) (k8 rfl) ?_
      refine k_if_eq (a := kB ((dF f m dd 1) ≤ t ∧ t < (dF f m dd 1) + (oF f m 2))) dX5_dateOfPersonAt_44 rfl (tgt := 62) rfl (kB_r _) (fun c44 : kB ((dF f m dd 1) ≤ t ∧ t < (dF f m dd 1) + (oF f m 2)) = 0 => ?_) (fun c44 : kB ((dF f m dd 1) ≤ t ∧ t < (dF f m dd 1) + (oF f m 2)) ≠ 0 => ?_)
      · replace c44 : ¬((dF f m dd 1) ≤ t ∧ t < (dF f m dd 1) + (oF f m 2)) := kB_z.mp c44
        refine k_iinc (a := ((i : Nat) : Int)) (pc1 := 65) dX5_dateOfPersonAt_62 rfl rfl (by decide) (k_loc (L' := [some (.ref pl), some (.int (iI p)), some (.int (iI k)), some (.int (iI t)), some (.ref (gDl γ k)), some (.int (iI (((i : Nat) : Int) + 1))), some (.ref (gDt γ (oF f m 0) dd))]) rfl ?_)
        refine k_goto dX5_dateOfPersonAt_65 (tgt := 13) rfl ?_
        refine k_forget 6 (k_loc (L' := [some (.ref pl), some (.int (iI p)), some (.int (iI k)), some (.int (iI t)), some (.ref (gDl γ k)), some (.int (iI (((i : Nat) : Int) + 1))), none]) rfl ?_)
        exact ih13 _ (by omega) (i + 1) rfl (by omega) (dn_s hC hi hx hB (fun z => by have y := (ma_iff hC.2.2 hi ho hk2).mp z; first | exact c44 y.2 | exact c56 y.1))
      · replace c44 : ((dF f m dd 1) ≤ t ∧ t < (dF f m dd 1) + (oF f m 2)) := kB_nz.mp c44
        refine k_aload (pc1 := 49) dX5_dateOfPersonAt_47 rfl rfl ?_
        refine k_get (pc1 := 52) dX5_dateOfPersonAt_49 rfl fd_RX5_218 (rp_D hC hi) (v := .ref (gMt γ (oF f m 0))) rfl ?_
        refine k_iload_n (pc1 := 53) dX5_dateOfPersonAt_52 rfl rfl ?_
        refine k_callVP dX5_dateOfPersonAt_53 rfl lk_RX5_247 o_X2_expects (w_X2_expects hl (rp_M hC hi.1 hi.2.1) ⟨by omega, by omega⟩ hmx.1 hmx.2.1 hmx.2.2.1 p ⟨by omega, by omega⟩) (as := [.int (iI p)]) (rp_M hC hi.1 hi.2.1) rfl rfl rfl rfl (by decide) (by decide) (k8 rfl) ?_
        refine k_val (v' := .int (iI (kB (exF f m p)))) (congrArg (fun z => Value.int (iI z)) (kB_cg (rp_exp hC hi.1 hi.2.1 ⟨by omega, by omega⟩))) ?_
        refine k_if_eq (a := kB (exF f m p)) dX5_dateOfPersonAt_56 rfl (tgt := 62) rfl (kB_r _) (fun c56 : kB (exF f m p) = 0 => ?_) (fun c56 : kB (exF f m p) ≠ 0 => ?_)
        · replace c56 : ¬(exF f m p) := kB_z.mp c56
          refine k_iinc (a := ((i : Nat) : Int)) (pc1 := 65) dX5_dateOfPersonAt_62 rfl rfl (by decide) (k_loc (L' := [some (.ref pl), some (.int (iI p)), some (.int (iI k)), some (.int (iI t)), some (.ref (gDl γ k)), some (.int (iI (((i : Nat) : Int) + 1))), some (.ref (gDt γ (oF f m 0) dd))]) rfl ?_)
          refine k_goto dX5_dateOfPersonAt_65 (tgt := 13) rfl ?_
          refine k_forget 6 (k_loc (L' := [some (.ref pl), some (.int (iI p)), some (.int (iI k)), some (.int (iI t)), some (.ref (gDl γ k)), some (.int (iI (((i : Nat) : Int) + 1))), none]) rfl ?_)
          exact ih13 _ (by omega) (i + 1) rfl (by omega) (dn_s hC hi hx hB (fun z => by have y := (ma_iff hC.2.2 hi ho hk2).mp z; first | exact c44 y.2 | exact c56 y.1))
        · replace c56 : (exF f m p) := kB_nz.mp c56
          refine k_aload (pc1 := 61) dX5_dateOfPersonAt_59 rfl rfl ?_
          exact k_aret dX5_dateOfPersonAt_61 rfl (Or.inl ⟨_, rfl⟩) (Or.inr ⟨_, rfl⟩) ⟨⟨m, dd, hi, (ma_iff hC.2.2 hi ho hk2).mpr ⟨c56, c44⟩, rfl⟩, rfl⟩
  exact hloop13 _ 0 rfl (by omega) dn_0
theorem w_ctry {l : Launch} {G : kG} {h : kAH} (hl : l.stackTraces = false) {pl : Nat} {γ : kGh} {A : kAb} {f : Nat → Int} (hC : kRp G h pl γ A f) {p k : Int} (hp : 0 ≤ p ∧ p < 6) (hk : 0 ≤ k ∧ k < 28) : kC l G m_X5_countFreeByTrying 5 0 0 [.ref pl, .int (iI p), .int (iI k)] h (kPq (.int (iI (ksm (fun t => kB (frF f p k (t : Int))) 16))) h) kNo := by
  refine kC_of hl rfl rfl (Nat.le_of_ble_eq_true rfl) (L := [some (.ref pl), some (.int (iI p)), some (.int (iI k)), none, none]) rfl ?_
  refine k_iconst (pc1 := 1) dX5_countFreeByTrying_0 rfl ?_
  refine k_istore_n (pc1 := 2) dX5_countFreeByTrying_1 rfl (by decide) (k_loc (L' := [some (.ref pl), some (.int (iI p)), some (.int (iI k)), some (.int (iI 0)), none]) rfl ?_)
  refine k_iconst (pc1 := 3) dX5_countFreeByTrying_2 rfl ?_
  refine k_istore (pc1 := 5) dX5_countFreeByTrying_3 rfl (by decide) (k_loc (L' := [some (.ref pl), some (.int (iI p)), some (.int (iI k)), some (.int (iI 0)), some (.int (iI 0))]) rfl ?_)
  have hloop5 : ∀ (zz : Nat) (i : Nat), zz = 16 - i → (i ≤ 16) → kW l G m_X5_countFreeByTrying 5 (kPq (.int (iI (ksm (fun t => kB (frF f p k (t : Int))) 16))) h) kNo 0 0 5 [some (.ref pl), some (.int (iI p)), some (.int (iI k)), some (.int (iI (ksm (fun t => kB (frF f p k (t : Int))) i))), some (.int (iI ((i : Nat) : Int)))] [] h := by
    intro zz
    induction zz using Nat.strongRecOn with
    | ind zz ih5 =>
    intro i hr5 hi9
    refine k_iload (pc1 := 7) dX5_countFreeByTrying_5 rfl rfl ?_
    refine k_bipush 16 (pc1 := 9) dX5_countFreeByTrying_7 rfl (by decide) ?_
    refine k_icmp_ge (a := ((i : Nat) : Int)) (b := 16) dX5_countFreeByTrying_9 rfl (tgt := 32) rfl (by omega) (by decide) (fun c9 : 16 ≤ ((i : Nat) : Int) => ?_) (fun c9 : ((i : Nat) : Int) < 16 => ?_)
    · skip
      refine k_iload_n (pc1 := 33) dX5_countFreeByTrying_32 rfl rfl ?_
      have e : i = 16 := by omega
      subst e
      exact k_iret dX5_countFreeByTrying_33 rfl rfl (kret rfl _)
    · skip
      refine k_aload_n (pc1 := 13) dX5_countFreeByTrying_12 rfl rfl ?_
      refine k_iload_n (pc1 := 14) dX5_countFreeByTrying_13 rfl rfl ?_
      refine k_iload_n (pc1 := 15) dX5_countFreeByTrying_14 rfl rfl ?_
      refine k_iload (pc1 := 17) dX5_countFreeByTrying_15 rfl rfl ?_
      by_cases hfr17 : frF f p k ((i : Nat) : Int)
      · skip
        refine k_callVP dX5_countFreeByTrying_17 rfl lk_RX5_212 o_X5_dateOfPersonAt (w_dpN hl hC (p := p) (k := k) (t := ((i : Nat) : Int)) ⟨by omega, by omega⟩ ⟨by omega, by omega⟩ ⟨by omega, by omega⟩ hfr17) (as := [.int (iI p), .int (iI k), .int (iI ((i : Nat) : Int))]) (rp_P hC) rfl rfl rfl rfl (by decide) (by decide) (k8 rfl) ?_
        refine k_ifnonnullN (pc1 := 23) dX5_countFreeByTrying_20 rfl ?_
        refine k_iinc (a := (ksm (fun t => kB (frF f p k (t : Int))) i)) (pc1 := 26) dX5_countFreeByTrying_23 rfl rfl (by decide) (k_loc (L' := [some (.ref pl), some (.int (iI p)), some (.int (iI k)), some (.int (iI ((ksm (fun t => kB (frF f p k (t : Int))) i) + 1))), some (.int (iI ((i : Nat) : Int)))]) rfl ?_)
        refine k_iinc (a := ((i : Nat) : Int)) (pc1 := 29) dX5_countFreeByTrying_26 rfl rfl (by decide) (k_loc (L' := [some (.ref pl), some (.int (iI p)), some (.int (iI k)), some (.int (iI ((ksm (fun t => kB (frF f p k (t : Int))) i) + 1))), some (.int (iI (((i : Nat) : Int) + 1)))]) rfl ?_)
        refine k_goto dX5_countFreeByTrying_29 (tgt := 5) rfl ?_
        have e : (ksm (fun t => kB (frF f p k (t : Int))) (i + 1)) = ((ksm (fun t => kB (frF f p k (t : Int))) i) + 1) := congrArg (fun z => (ksm (fun t => kB (frF f p k (t : Int))) i) + z) (kB_t hfr17)
        refine k_loc (L' := [some (.ref pl), some (.int (iI p)), some (.int (iI k)), some (.int (iI (ksm (fun t => kB (frF f p k (t : Int))) (i + 1)))), some (.int (iI (((i : Nat) : Int) + 1)))]) (by rw [e]) ?_
        exact ih5 _ (by omega) (i + 1) rfl (by omega)
      · skip
        refine k_callV dX5_countFreeByTrying_17 rfl lk_RX5_212 o_X5_dateOfPersonAt (as := [.int (iI p), .int (iI k), .int (iI ((i : Nat) : Int))]) rfl rfl (rp_P hC) rfl rfl (w_dpY hl hC (p := p) (k := k) (t := ((i : Nat) : Int)) ⟨by omega, by omega⟩ ⟨by omega, by omega⟩ ⟨by omega, by omega⟩ hfr17) (by decide) (by decide) (Nat.zero_le _) (Nat.zero_le _) (k8 rfl) (fun v h9 hv => ?_) (fun E h9 z => z.elim)
        obtain ⟨⟨m, dd, hi, hma, hv1⟩, hv2⟩ := hv
        subst hv1
        rw [hv2]
        refine k_st (st' := [.ref (gDt γ (oF f m 0) dd)]) rfl ?_
        have hmm := kWf_m hC.2.2 hi.1 hi.2.1
        have hmd := kWf_d hC.2.2 hi.1 hi.2.1 hi.2.2.1 hi.2.2.2
        refine k_ifnonnull dX5_countFreeByTrying_20 (tgt := 26) rfl ?_
        refine k_iinc (a := ((i : Nat) : Int)) (pc1 := 29) dX5_countFreeByTrying_26 rfl rfl (by decide) (k_loc (L' := [some (.ref pl), some (.int (iI p)), some (.int (iI k)), some (.int (iI (ksm (fun t => kB (frF f p k (t : Int))) i))), some (.int (iI (((i : Nat) : Int) + 1)))]) rfl ?_)
        refine k_goto dX5_countFreeByTrying_29 (tgt := 5) rfl ?_
        have e : (ksm (fun t => kB (frF f p k (t : Int))) (i + 1)) = (ksm (fun t => kB (frF f p k (t : Int))) i) := (congrArg (fun z => (ksm (fun t => kB (frF f p k (t : Int))) i) + z) (kB_f hfr17)).trans (Int.add_zero _)
        refine k_loc (L' := [some (.ref pl), some (.int (iI p)), some (.int (iI k)), some (.int (iI (ksm (fun t => kB (frF f p k (t : Int))) (i + 1)))), some (.int (iI (((i : Nat) : Int) + 1)))]) (by rw [e]) ?_
        exact ih5 _ (by omega) (i + 1) rfl (by omega)
  exact hloop5 _ 0 rfl (by omega)
theorem w_cswp {l : Launch} {G : kG} {h : kAH} (hl : l.stackTraces = false) {pl : Nat} {γ : kGh} {A : kAb} {f : Nat → Int} (hC : kRp G h pl γ A f) {p k : Int} (hp : 0 ≤ p ∧ p < 6) (hk : 0 ≤ k ∧ k < 28) : kC l G m_X5_countFreeBySweep 4 0 0 [.ref pl, .int (iI p), .int (iI k)] h (kPq (.int (iI (ksm (fun t => kB (frF f p k (t : Int))) 16))) h) kNo := by
  refine kC_of hl rfl rfl (Nat.le_of_ble_eq_true rfl) (L := [some (.ref pl), some (.int (iI p)), some (.int (iI k)), none, none, none, none, none]) rfl ?_
  refine k_aload_n (pc1 := 1) dX5_countFreeBySweep_0 rfl rfl ?_
  refine k_iload_n (pc1 := 2) dX5_countFreeBySweep_1 rfl rfl ?_
  refine k_callVP dX5_countFreeBySweep_2 rfl lk_RX5_242 o_X5_dayWith (w_dyY hl hC ⟨by omega, by omega⟩) (as := [.int (iI k)]) (rp_P hC) rfl rfl rfl rfl (by decide) (by decide) (k8 rfl) ?_
  obtain ⟨arD, cD, hDl⟩ := rp_Dl hC (k := k) (by omega) (by omega)
  obtain ⟨mcD, hDa⟩ := hDl.1
  have hlen := rp_len hC (k := k) (by omega) (by omega)
  refine k_get (pc1 := 8) dX5_countFreeBySweep_5 rfl fd_RX5_246 (rp_Dy hC (by omega) (by omega)) (v := .ref (gDl γ k)) rfl ?_
  refine k_astore_n (pc1 := 9) dX5_countFreeBySweep_8 rfl (by decide) (k_loc (L' := [some (.ref pl), some (.int (iI p)), some (.int (iI k)), some (.ref (gDl γ k)), none, none, none, none]) rfl ?_)
  refine k_iconst (pc1 := 10) dX5_countFreeBySweep_9 rfl ?_
  refine k_istore (pc1 := 12) dX5_countFreeBySweep_10 rfl (by decide) (k_loc (L' := [some (.ref pl), some (.int (iI p)), some (.int (iI k)), some (.ref (gDl γ k)), some (.int (iI 0)), none, none, none]) rfl ?_)
  refine k_iconst (pc1 := 13) dX5_countFreeBySweep_12 rfl ?_
  refine k_istore (pc1 := 15) dX5_countFreeBySweep_13 rfl (by decide) (k_loc (L' := [some (.ref pl), some (.int (iI p)), some (.int (iI k)), some (.ref (gDl γ k)), some (.int (iI 0)), some (.int (iI 0)), none, none]) rfl ?_)
  refine k_iconst (pc1 := 16) dX5_countFreeBySweep_15 rfl ?_
  refine k_istore (pc1 := 18) dX5_countFreeBySweep_16 rfl (by decide) (k_loc (L' := [some (.ref pl), some (.int (iI p)), some (.int (iI k)), some (.ref (gDl γ k)), some (.int (iI 0)), some (.int (iI 0)), some (.int (iI 0)), none]) rfl ?_)
  have hloop18 : ∀ (zz : Nat) (i : Nat) (s fr : Int), zz = (aDx A k).length - i → (i ≤ (aDx A k).length) → (swI A f k (fun m _ => exF f m p) i s (s - fr)) → kW l G m_X5_countFreeBySweep 4 (kPq (.int (iI (ksm (fun t => kB (frF f p k (t : Int))) 16))) h) kNo 0 0 18 [some (.ref pl), some (.int (iI p)), some (.int (iI k)), some (.ref (gDl γ k)), some (.int (iI fr)), some (.int (iI s)), some (.int (iI ((i : Nat) : Int))), none] [] h := by
    intro zz
    induction zz using Nat.strongRecOn with
    | ind zz ih18 =>
    intro i s fr hr18 hi9 hB
    refine k_iload (pc1 := 20) dX5_countFreeBySweep_18 rfl rfl ?_
    refine k_aload_n (pc1 := 21) dX5_countFreeBySweep_20 rfl rfl ?_
    refine k_callVP dX5_countFreeBySweep_21 rfl lk_RX5_65 o_Jx4a65c_size_8abf5 (w_lsz hl hDl) (as := []) hDa rfl rfl rfl rfl (by decide) (by decide) (k8 rfl) ?_
    refine k_val (v' := .int (iI (((aDx A k).length : Nat) : Int))) (congrArg (fun z : Nat => Value.int (iI (z : Int))) (List.length_map _)) ?_
    refine k_icmp_ge (a := ((i : Nat) : Int)) (b := (((aDx A k).length : Nat) : Int)) dX5_countFreeBySweep_24 rfl (tgt := 91) rfl (by omega) (by omega) (fun c24 : (((aDx A k).length : Nat) : Int) ≤ ((i : Nat) : Int) => ?_) (fun c24 : ((i : Nat) : Int) < (((aDx A k).length : Nat) : Int) => ?_)
    · skip
      have hs16 := hB.1
      refine k_iload (pc1 := 93) dX5_countFreeBySweep_91 rfl rfl ?_
      refine k_bipush 16 (pc1 := 95) dX5_countFreeBySweep_93 rfl (by decide) ?_
      refine k_iadd (a := fr) (b := 16) (pc1 := 96) dX5_countFreeBySweep_95 rfl ?_
      refine k_iload (pc1 := 98) dX5_countFreeBySweep_96 rfl rfl ?_
      refine k_isub (a := (fr + 16)) (b := s) (pc1 := 99) dX5_countFreeBySweep_98 rfl ?_
      have e := sw_end hC hk.1 hk.2 (show i = (aDx A k).length by omega) hB
      have e2 := ksm_not (P := cvF f k (fun m _ => exF f m p)) 16
      have e3 : (ksm (fun t => kB (frF f p k (t : Int))) 16) = ksm (fun t => kB (¬ cvF f k (fun m _ => exF f m p) t)) 16 := ksm_cg (fun t ht => kB_cg (cv_p hC.2.2 hp))
      exact k_iret dX5_countFreeBySweep_99 rfl rfl (kret (by rw [e3, e2]; omega) _)
    · skip
      obtain ⟨m, dd, hi, ho, hk2, hx⟩ := rp_at hC (k := k) (by omega) (by omega) (i := i) (by omega)
      have hmm := kWf_m hC.2.2 hi.1 hi.2.1
      have hmd := kWf_d hC.2.2 hi.1 hi.2.1 hi.2.2.1 hi.2.2.2
      have hmx := rp_Mx hC hi.1 hi.2.1
      refine k_aload_n (pc1 := 28) dX5_countFreeBySweep_27 rfl rfl ?_
      refine k_iload (pc1 := 30) dX5_countFreeBySweep_28 rfl rfl ?_
      refine k_callVP dX5_countFreeBySweep_30 rfl lk_RX5_131 o_Jx4a65c_get_915e3 (w_lgt hl hDl ((i : Nat) : Int) ⟨by omega, by rw [List.length_map _]; omega⟩ (by rw [show ((((i : Nat) : Int)) : Int).toNat = i from rfl, List.getElem?_map, hx]; rfl)) (as := [.int (iI ((i : Nat) : Int))]) hDa rfl rfl rfl rfl (by decide) (by decide) (k8 rfl) ?_
      refine k_cast (r := (RX0, TX0, 4)) (pc1 := 36) dX5_countFreeBySweep_33 rfl cl_RX5_109 (rp_D hC hi) rfl ?_
      refine k_astore (pc1 := 38) dX5_countFreeBySweep_36 rfl (by decide) (k_loc (L' := [some (.ref pl), some (.int (iI p)), some (.int (iI k)), some (.ref (gDl γ k)), some (.int (iI fr)), some (.int (iI s)), some (.int (iI ((i : Nat) : Int))), some (.ref (gDt γ (oF f m 0) dd))]) rfl ?_)
      refine k_aload (pc1 := 40) dX5_countFreeBySweep_38 rfl rfl ?_
      refine k_get (pc1 := 43) dX5_countFreeBySweep_40 rfl fd_RX5_218 (rp_D hC hi) (v := .ref (gMt γ (oF f m 0))) rfl ?_
      refine k_iload_n (pc1 := 44) dX5_countFreeBySweep_43 rfl rfl ?_
      refine k_callVP dX5_countFreeBySweep_44 rfl lk_RX5_247 o_X2_expects (w_X2_expects hl (rp_M hC hi.1 hi.2.1) ⟨by omega, by omega⟩ hmx.1 hmx.2.1 hmx.2.2.1 p ⟨by omega, by omega⟩) (as := [.int (iI p)]) (rp_M hC hi.1 hi.2.1) rfl rfl rfl rfl (by decide) (by decide) (k8 rfl) ?_
      refine k_val (v' := .int (iI (kB (exF f m p)))) (congrArg (fun z => Value.int (iI z)) (kB_cg (rp_exp hC hi.1 hi.2.1 ⟨by omega, by omega⟩))) ?_
      refine k_if_eq (a := kB (exF f m p)) dX5_countFreeBySweep_47 rfl (tgt := 85) rfl (kB_r _) (fun c47 : kB (exF f m p) = 0 => ?_) (fun c47 : kB (exF f m p) ≠ 0 => ?_)
      · replace c47 : ¬(exF f m p) := kB_z.mp c47
        refine k_iinc (a := ((i : Nat) : Int)) (pc1 := 88) dX5_countFreeBySweep_85 rfl rfl (by decide) (k_loc (L' := [some (.ref pl), some (.int (iI p)), some (.int (iI k)), some (.ref (gDl γ k)), some (.int (iI fr)), some (.int (iI s)), some (.int (iI (((i : Nat) : Int) + 1))), some (.ref (gDt γ (oF f m 0) dd))]) rfl ?_)
        refine k_goto dX5_countFreeBySweep_88 (tgt := 18) rfl ?_
        refine k_forget 7 (k_loc (L' := [some (.ref pl), some (.int (iI p)), some (.int (iI k)), some (.ref (gDl γ k)), some (.int (iI fr)), some (.int (iI s)), some (.int (iI (((i : Nat) : Int) + 1))), none]) rfl ?_)
        exact ih18 _ (by omega) (i + 1) s fr rfl (by omega) (sw_skip hC hi hx hB c47)
      · replace c47 : (exF f m p) := kB_nz.mp c47
        refine k_iload (pc1 := 52) dX5_countFreeBySweep_50 rfl rfl ?_
        refine k_aload (pc1 := 54) dX5_countFreeBySweep_52 rfl rfl ?_
        refine k_get (pc1 := 57) dX5_countFreeBySweep_54 rfl fd_RX5_108 (rp_D hC hi) (v := .ref (gSt γ (oF f m 0) dd)) rfl ?_
        refine k_get (pc1 := 60) dX5_countFreeBySweep_57 rfl fd_RX5_122 (rp_S hC hi) (v := .int (iI (dF f m dd 1))) rfl ?_
        refine k_iload (pc1 := 62) dX5_countFreeBySweep_60 rfl rfl ?_
        refine k_isub (a := (dF f m dd 1)) (b := s) (pc1 := 63) dX5_countFreeBySweep_62 rfl ?_
        refine k_iconst (pc1 := 64) dX5_countFreeBySweep_63 rfl ?_
        have hs16 := hB.1
        have hlo9 := sw_lo hC hk.1 hk.2 (ap_p hC.2.2 hp) hi ho hk2 hx hB c47
        refine k_max (a := ((dF f m dd 1) - s)) (b := 0) dX5_countFreeBySweep_64 rfl lk_RX5_229 (by omega) (by decide) (k8 rfl) ?_
        refine k_iadd (a := fr) (b := (kI (((dF f m dd 1) - s) < 0) 0 ((dF f m dd 1) - s))) (pc1 := 68) dX5_countFreeBySweep_67 rfl ?_
        refine k_istore (pc1 := 70) dX5_countFreeBySweep_68 rfl (by decide) (k_loc (L' := [some (.ref pl), some (.int (iI p)), some (.int (iI k)), some (.ref (gDl γ k)), some (.int (iI (fr + (kI (((dF f m dd 1) - s) < 0) 0 ((dF f m dd 1) - s))))), some (.int (iI s)), some (.int (iI ((i : Nat) : Int))), some (.ref (gDt γ (oF f m 0) dd))]) rfl ?_)
        refine k_aload (pc1 := 72) dX5_countFreeBySweep_70 rfl rfl ?_
        refine k_get (pc1 := 75) dX5_countFreeBySweep_72 rfl fd_RX5_108 (rp_D hC hi) (v := .ref (gSt γ (oF f m 0) dd)) rfl ?_
        refine k_callVP dX5_countFreeBySweep_75 rfl lk_RX5_348 o_X4_end (w_X4_end hl (rp_S hC hi)) (as := []) (rp_S hC hi) rfl rfl rfl rfl (by decide) (by decide) (k8 rfl) ?_
        refine k_iload (pc1 := 80) dX5_countFreeBySweep_78 rfl rfl ?_
        refine k_max (a := ((dF f m dd 1) + (oF f m 2))) (b := s) dX5_countFreeBySweep_80 rfl lk_RX5_229 (by omega) (by omega) (k8 rfl) ?_
        refine k_istore (pc1 := 85) dX5_countFreeBySweep_83 rfl (by decide) (k_loc (L' := [some (.ref pl), some (.int (iI p)), some (.int (iI k)), some (.ref (gDl γ k)), some (.int (iI (fr + (kI (((dF f m dd 1) - s) < 0) 0 ((dF f m dd 1) - s))))), some (.int (iI (kI (((dF f m dd 1) + (oF f m 2)) < s) s ((dF f m dd 1) + (oF f m 2))))), some (.int (iI ((i : Nat) : Int))), some (.ref (gDt γ (oF f m 0) dd))]) rfl ?_)
        refine k_iinc (a := ((i : Nat) : Int)) (pc1 := 88) dX5_countFreeBySweep_85 rfl rfl (by decide) (k_loc (L' := [some (.ref pl), some (.int (iI p)), some (.int (iI k)), some (.ref (gDl γ k)), some (.int (iI (fr + (kI (((dF f m dd 1) - s) < 0) 0 ((dF f m dd 1) - s))))), some (.int (iI (kI (((dF f m dd 1) + (oF f m 2)) < s) s ((dF f m dd 1) + (oF f m 2))))), some (.int (iI (((i : Nat) : Int) + 1))), some (.ref (gDt γ (oF f m 0) dd))]) rfl ?_)
        refine k_goto dX5_countFreeBySweep_88 (tgt := 18) rfl ?_
        refine k_forget 7 (k_loc (L' := [some (.ref pl), some (.int (iI p)), some (.int (iI k)), some (.ref (gDl γ k)), some (.int (iI (fr + (kI (((dF f m dd 1) - s) < 0) 0 ((dF f m dd 1) - s))))), some (.int (iI (kI (((dF f m dd 1) + (oF f m 2)) < s) s ((dF f m dd 1) + (oF f m 2))))), some (.int (iI (((i : Nat) : Int) + 1))), none]) rfl ?_)
        have hlo := sw_lo hC hk.1 hk.2 (ap_p hC.2.2 hp) hi ho hk2 hx hB c47
        have ht := sw_take hC hk.1 hk.2 (ap_p hC.2.2 hp) hi ho hk2 hx hB c47
        have e1 : (fr + (kI (((dF f m dd 1) - s) < 0) 0 ((dF f m dd 1) - s))) = fr + (dF f m dd 1 - s) := by
          by_cases z : dF f m dd 1 - s < 0
          · omega
          · rw [kI_f z]
        have e2 : (kI (((dF f m dd 1) + (oF f m 2)) < s) s ((dF f m dd 1) + (oF f m 2))) = dF f m dd 1 + oF f m 2 := kI_f (by omega)
        refine k_loc (L' := [some (.ref pl), some (.int (iI p)), some (.int (iI k)), some (.ref (gDl γ k)), some (.int (iI (fr + (dF f m dd 1 - s)))), some (.int (iI (dF f m dd 1 + oF f m 2))), some (.int (iI (((i : Nat) : Int) + 1))), none]) (by rw [e1, e2]) ?_
        have e3 : s - fr + oF f m 2 = dF f m dd 1 + oF f m 2 - (fr + (dF f m dd 1 - s)) := by omega
        rw [e3] at ht
        exact ih18 _ (by omega) (i + 1) _ _ rfl (by omega) ht
  exact hloop18 _ 0 0 0 rfl (by omega) sw_0
