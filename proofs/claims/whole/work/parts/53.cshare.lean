/-! ===== the class: means and shares, walked ===== -/
theorem w_meanF {l : Launch} {G : kG} {h : kAH} (hl : l.stackTraces = false) {pl : Nat} {γ : kGh} {A : kAb} {f : Nat → Int} (hC : kRp G h pl γ A f) (hc : ¬ f 1 = 0) : kC l G m_X5_meanExpected 4 0 0 [.ref pl] h (kPq (.double (FP.ddiv (FP.i2d (iI (mxF f))) (FP.i2d (iI (f 1))))) h) kNo := by
  refine kC_of hl rfl rfl (Nat.le_of_ble_eq_true rfl) (L := [some (.ref pl), none, none, none]) rfl ?_
  obtain ⟨arM, cM, hMl⟩ := rp_Ml hC
  obtain ⟨mcM, hMa⟩ := hMl.1
  have h8 := kWf_cnt hC.2.2
  refine k_aload_n (pc1 := 1) dX5_meanExpected_0 rfl rfl ?_
  refine k_get (pc1 := 4) dX5_meanExpected_1 rfl fd_RX5_28 (rp_P hC) (v := .ref (gMl γ)) rfl ?_
  refine k_callVP dX5_meanExpected_4 rfl lk_RX5_65 o_Jx4a65c_size_8abf5 (w_lsz hl hMl) (as := []) hMa rfl rfl rfl rfl (by decide) (by decide) (k8 rfl) ?_
  refine k_val (v' := .int (iI (f 1))) (congrArg (fun z : Int => Value.int (iI z)) (by rw [List.length_map, List.length_range]; omega)) ?_
  refine k_istore_n (pc1 := 8) dX5_meanExpected_7 rfl (by decide) (k_loc (L' := [some (.ref pl), some (.int (iI (f 1))), none, none]) rfl ?_)
  refine k_iload_n (pc1 := 9) dX5_meanExpected_8 rfl rfl ?_
  refine k_if_ne (a := (f 1)) dX5_meanExpected_9 rfl (tgt := 23) rfl (by omega) (fun c9 : (f 1) ≠ 0 => ?_) (fun c9 : (f 1) = 0 => ?_)
  · skip
    refine k_iconst (pc1 := 24) dX5_meanExpected_23 rfl ?_
    refine k_istore_n (pc1 := 25) dX5_meanExpected_24 rfl (by decide) (k_loc (L' := [some (.ref pl), some (.int (iI (f 1))), some (.int (iI 0)), none]) rfl ?_)
    refine k_iconst (pc1 := 26) dX5_meanExpected_25 rfl ?_
    refine k_istore_n (pc1 := 27) dX5_meanExpected_26 rfl (by decide) (k_loc (L' := [some (.ref pl), some (.int (iI (f 1))), some (.int (iI 0)), some (.int (iI 0))]) rfl ?_)
    have hloop27 : ∀ (zz : Nat) (i : Nat), zz = (f 1 - ((i : Nat) : Int)).toNat → (((i : Nat) : Int) ≤ f 1) → kW l G m_X5_meanExpected 4 (kPq (.double (FP.ddiv (FP.i2d (iI (mxF f))) (FP.i2d (iI (f 1))))) h) kNo 0 0 27 [some (.ref pl), some (.int (iI (f 1))), some (.int (iI (ksm (fun m => kpo (ppF f (m : Int)) 6) i))), some (.int (iI ((i : Nat) : Int)))] [] h := by
      intro zz
      induction zz using Nat.strongRecOn with
      | ind zz ih27 =>
      intro i hr27 hi9
      refine k_iload_n (pc1 := 28) dX5_meanExpected_27 rfl rfl ?_
      refine k_iload_n (pc1 := 29) dX5_meanExpected_28 rfl rfl ?_
      refine k_icmp_ge (a := ((i : Nat) : Int)) (b := (f 1)) dX5_meanExpected_29 rfl (tgt := 55) rfl (by omega) (by omega) (fun c29 : (f 1) ≤ ((i : Nat) : Int) => ?_) (fun c29 : ((i : Nat) : Int) < (f 1) => ?_)
      · skip
        have hmr : 0 * ((i : Nat) : Int) ≤ (ksm (fun m => kpo (ppF f (m : Int)) 6) i) ∧ (ksm (fun m => kpo (ppF f (m : Int)) 6) i) ≤ 6 * ((i : Nat) : Int) := ksm_rng (fun j _ => kpo_rng _ 6)
        refine k_iload_n (pc1 := 56) dX5_meanExpected_55 rfl rfl ?_
        refine k_i2d (pc1 := 57) dX5_meanExpected_56 rfl ?_
        refine k_iload_n (pc1 := 58) dX5_meanExpected_57 rfl rfl ?_
        refine k_i2d (pc1 := 59) dX5_meanExpected_58 rfl ?_
        refine k_ddiv (pc1 := 60) dX5_meanExpected_59 rfl (fp_d (by omega) (by omega)) ?_
        have ei : i = (f 1).toNat := by omega
        subst ei
        exact k_dret dX5_meanExpected_60 rfl ⟨rfl, rfl⟩
      · skip
        refine k_iload_n (pc1 := 33) dX5_meanExpected_32 rfl rfl ?_
        refine k_aload_n (pc1 := 34) dX5_meanExpected_33 rfl rfl ?_
        refine k_get (pc1 := 37) dX5_meanExpected_34 rfl fd_RX5_28 (rp_P hC) (v := .ref (gMl γ)) rfl ?_
        refine k_iload_n (pc1 := 38) dX5_meanExpected_37 rfl rfl ?_
        refine k_callVP dX5_meanExpected_38 rfl lk_RX5_131 o_Jx4a65c_get_915e3 (w_lgt hl hMl ((i : Nat) : Int) ⟨by omega, by rw [List.length_map, List.length_range]; omega⟩ (by rw [List.getElem?_map, List.getElem?_range (by omega)]; show some (gMt γ (oF f ((Int.toNat ((i : Nat) : Int) : Nat) : Int) 0)) = _; rw [Int.toNat_of_nonneg (by omega)])) (as := [.int (iI ((i : Nat) : Int))]) hMa rfl rfl rfl rfl (by decide) (by decide) (k8 rfl) ?_
        have hmm := kWf_m hC.2.2 (m := ((i : Nat) : Int)) (by omega) (by omega)
        have hmx := rp_Mx hC (m := ((i : Nat) : Int)) (by omega) (by omega)
        obtain ⟨arE, cE, hMd⟩ := rp_Md hC (m := ((i : Nat) : Int)) (by omega) (by omega)
        obtain ⟨mcE, hMe⟩ := hMd.1
        refine k_cast (r := (RX2, TX2, 6)) (pc1 := 44) dX5_meanExpected_41 rfl cl_RX5_76 (rp_M hC (m := ((i : Nat) : Int)) (by omega) (by omega)) rfl ?_
        refine k_callVP dX5_meanExpected_44 rfl lk_RX5_206 o_X2_expectedCount (w_X2_expectedCount hl (rp_M hC (m := ((i : Nat) : Int)) (by omega) (by omega)) ⟨by omega, by omega⟩ hmx.1 hmx.2.1 hmx.2.2.1) (as := []) (rp_M hC (m := ((i : Nat) : Int)) (by omega) (by omega)) rfl rfl rfl rfl (by decide) (by decide) (k8 rfl) ?_
        refine k_val (v' := .int (iI (kpo (ppF f ((i : Nat) : Int)) 6))) (congrArg (fun z => Value.int (iI (kpo z 6))) (rp_ex hC (m := ((i : Nat) : Int)) (by omega) (by omega))) ?_
        refine k_iadd (a := (ksm (fun m => kpo (ppF f (m : Int)) 6) i)) (b := (kpo (ppF f ((i : Nat) : Int)) 6)) (pc1 := 48) dX5_meanExpected_47 rfl ?_
        refine k_istore_n (pc1 := 49) dX5_meanExpected_48 rfl (by decide) (k_loc (L' := [some (.ref pl), some (.int (iI (f 1))), some (.int (iI ((ksm (fun m => kpo (ppF f (m : Int)) 6) i) + (kpo (ppF f ((i : Nat) : Int)) 6)))), some (.int (iI ((i : Nat) : Int)))]) rfl ?_)
        refine k_iinc (a := ((i : Nat) : Int)) (pc1 := 52) dX5_meanExpected_49 rfl rfl (by decide) (k_loc (L' := [some (.ref pl), some (.int (iI (f 1))), some (.int (iI ((ksm (fun m => kpo (ppF f (m : Int)) 6) i) + (kpo (ppF f ((i : Nat) : Int)) 6)))), some (.int (iI (((i : Nat) : Int) + 1)))]) rfl ?_)
        refine k_goto dX5_meanExpected_52 (tgt := 27) rfl ?_
        refine k_loc (L' := [some (.ref pl), some (.int (iI (f 1))), some (.int (iI (ksm (fun m => kpo (ppF f (m : Int)) 6) (i + 1)))), some (.int (iI (((i : Nat) : Int) + 1)))]) rfl ?_
        exact ih27 _ (by omega) (i + 1) rfl (by omega)
    exact hloop27 _ 0 rfl (by omega)
  · skip
    exfalso; omega
theorem w_meanT {l : Launch} {G : kG} {h : kAH} (hl : l.stackTraces = false) {pl : Nat} {γ : kGh} {A : kAb} {f : Nat → Int} (hC : kRp G h pl γ A f) (hc : f 1 = 0) : kC l G m_X5_meanExpected 4 1 6 [.ref pl] h kNv (kTh "java/lang/ArithmeticException" h) := by
  refine kC_of hl rfl rfl (Nat.le_of_ble_eq_true rfl) (L := [some (.ref pl), none, none, none]) rfl ?_
  obtain ⟨arM, cM, hMl⟩ := rp_Ml hC
  obtain ⟨mcM, hMa⟩ := hMl.1
  have h8 := kWf_cnt hC.2.2
  refine k_aload_n (pc1 := 1) dX5_meanExpected_0 rfl rfl ?_
  refine k_get (pc1 := 4) dX5_meanExpected_1 rfl fd_RX5_28 (rp_P hC) (v := .ref (gMl γ)) rfl ?_
  refine k_callVP dX5_meanExpected_4 rfl lk_RX5_65 o_Jx4a65c_size_8abf5 (w_lsz hl hMl) (as := []) hMa rfl rfl rfl rfl (by decide) (by decide) (k8 rfl) ?_
  refine k_val (v' := .int (iI (f 1))) (congrArg (fun z : Int => Value.int (iI z)) (by rw [List.length_map, List.length_range]; omega)) ?_
  refine k_istore_n (pc1 := 8) dX5_meanExpected_7 rfl (by decide) (k_loc (L' := [some (.ref pl), some (.int (iI (f 1))), none, none]) rfl ?_)
  refine k_iload_n (pc1 := 9) dX5_meanExpected_8 rfl rfl ?_
  refine k_if_ne (a := (f 1)) dX5_meanExpected_9 rfl (tgt := 23) rfl (by omega) (fun c9 : (f 1) ≠ 0 => ?_) (fun c9 : (f 1) = 0 => ?_)
  · skip
    exfalso; omega
  · skip
    exact k_throwW 15 16 19 22 rfl dX5_meanExpected_12 dX5_meanExpected_15 dX5_meanExpected_16 dX5_meanExpected_19 dX5_meanExpected_22 rfl rfl rfl rfl rfl (by decide) (by decide) cl_RX5_254 ini_ArithmeticException (text := "no meetings") (by decide +kernel) at_RX5_258 (k8 rfl) (by decide) (by decide) ⟨rfl, rfl⟩
theorem w_yesF {l : Launch} {G : kG} {h : kAH} (hl : l.stackTraces = false) {pl : Nat} {γ : kGh} {A : kAb} {f : Nat → Int} (hC : kRp G h pl γ A f) (hc : ¬ alF f = 0) : kC l G m_X5_yesShare 4 0 0 [.ref pl] h (kPq (.float (FP.fdiv (FP.i2f (iI (ysF f))) (FP.i2f (iI (alF f))))) h) kNo := by
  refine kC_of hl rfl rfl (Nat.le_of_ble_eq_true rfl) (L := [some (.ref pl), none, none, none, none]) rfl ?_
  obtain ⟨arM, cM, hMl⟩ := rp_Ml hC
  obtain ⟨mcM, hMa⟩ := hMl.1
  have h8 := kWf_cnt hC.2.2
  refine k_iconst (pc1 := 1) dX5_yesShare_0 rfl ?_
  refine k_istore_n (pc1 := 2) dX5_yesShare_1 rfl (by decide) (k_loc (L' := [some (.ref pl), some (.int (iI 0)), none, none, none]) rfl ?_)
  refine k_iconst (pc1 := 3) dX5_yesShare_2 rfl ?_
  refine k_istore_n (pc1 := 4) dX5_yesShare_3 rfl (by decide) (k_loc (L' := [some (.ref pl), some (.int (iI 0)), some (.int (iI 0)), none, none]) rfl ?_)
  refine k_iconst (pc1 := 5) dX5_yesShare_4 rfl ?_
  refine k_istore_n (pc1 := 6) dX5_yesShare_5 rfl (by decide) (k_loc (L' := [some (.ref pl), some (.int (iI 0)), some (.int (iI 0)), some (.int (iI 0)), none]) rfl ?_)
  have hloop6 : ∀ (zz : Nat) (i : Nat), zz = (f 1 - ((i : Nat) : Int)).toNat → (((i : Nat) : Int) ≤ f 1) → kW l G m_X5_yesShare 4 (kPq (.float (FP.fdiv (FP.i2f (iI (ysF f))) (FP.i2f (iI (alF f))))) h) kNo 0 0 6 [some (.ref pl), some (.int (iI (ksm (fun m => ksm (fun p => kB (oF f (m : Int) (4 + (p : Int)) = 121)) 6) i))), some (.int (iI ((ksm (fun m => ksm (fun p => kB (oF f (m : Int) (4 + (p : Int)) = 121 ∨ oF f (m : Int) (4 + (p : Int)) = 110)) 6) i) - (ksm (fun m => ksm (fun p => kB (oF f (m : Int) (4 + (p : Int)) = 121)) 6) i)))), some (.int (iI ((i : Nat) : Int))), none] [] h := by
    intro zz
    induction zz using Nat.strongRecOn with
    | ind zz ih6 =>
    intro i hr6 hi9
    refine k_iload_n (pc1 := 7) dX5_yesShare_6 rfl rfl ?_
    refine k_aload_n (pc1 := 8) dX5_yesShare_7 rfl rfl ?_
    refine k_get (pc1 := 11) dX5_yesShare_8 rfl fd_RX5_28 (rp_P hC) (v := .ref (gMl γ)) rfl ?_
    refine k_callVP dX5_yesShare_11 rfl lk_RX5_65 o_Jx4a65c_size_8abf5 (w_lsz hl hMl) (as := []) hMa rfl rfl rfl rfl (by decide) (by decide) (k8 rfl) ?_
    refine k_val (v' := .int (iI (f 1))) (congrArg (fun z : Int => Value.int (iI z)) (by rw [List.length_map, List.length_range]; omega)) ?_
    refine k_icmp_ge (a := ((i : Nat) : Int)) (b := (f 1)) dX5_yesShare_14 rfl (tgt := 58) rfl (by omega) (by omega) (fun c14 : (f 1) ≤ ((i : Nat) : Int) => ?_) (fun c14 : ((i : Nat) : Int) < (f 1) => ?_)
    · skip
      have ei : i = (f 1).toNat := by omega
      subst ei
      have hyr := ysF_r (f := f) h8
      refine k_loc (L' := [some (.ref pl), some (.int (iI (ysF f))), some (.int (iI (alF f - ysF f))), some (.int (iI (((f 1).toNat : Nat) : Int))), none]) rfl ?_
      refine k_iload_n (pc1 := 59) dX5_yesShare_58 rfl rfl ?_
      refine k_iload_n (pc1 := 60) dX5_yesShare_59 rfl rfl ?_
      refine k_iadd (a := (ysF f)) (b := (alF f - ysF f)) (pc1 := 61) dX5_yesShare_60 rfl ?_
      refine k_val (v' := .int (iI (alF f))) (congrArg (fun z => Value.int (iI z)) (by omega)) ?_
      refine k_if_ne (a := (alF f)) dX5_yesShare_61 rfl (tgt := 75) rfl (by omega) (fun c61 : (alF f) ≠ 0 => ?_) (fun c61 : (alF f) = 0 => ?_)
      · skip
        refine k_iload_n (pc1 := 76) dX5_yesShare_75 rfl rfl ?_
        refine k_i2f (pc1 := 77) dX5_yesShare_76 rfl ?_
        refine k_iload_n (pc1 := 78) dX5_yesShare_77 rfl rfl ?_
        refine k_iload_n (pc1 := 79) dX5_yesShare_78 rfl rfl ?_
        refine k_iadd (a := (ysF f)) (b := (alF f - ysF f)) (pc1 := 80) dX5_yesShare_79 rfl ?_
        refine k_val (v' := .int (iI (alF f))) (congrArg (fun z => Value.int (iI z)) (by omega)) ?_
        refine k_i2f (pc1 := 81) dX5_yesShare_80 rfl ?_
        refine k_fdiv (pc1 := 82) dX5_yesShare_81 rfl (fp_f (by omega) (by omega)) ?_
        exact k_fret dX5_yesShare_82 rfl ⟨rfl, rfl⟩
      · skip
        exfalso; omega
    · skip
      refine k_aload_n (pc1 := 18) dX5_yesShare_17 rfl rfl ?_
      refine k_get (pc1 := 21) dX5_yesShare_18 rfl fd_RX5_28 (rp_P hC) (v := .ref (gMl γ)) rfl ?_
      refine k_iload_n (pc1 := 22) dX5_yesShare_21 rfl rfl ?_
      refine k_callVP dX5_yesShare_22 rfl lk_RX5_131 o_Jx4a65c_get_915e3 (w_lgt hl hMl ((i : Nat) : Int) ⟨by omega, by rw [List.length_map, List.length_range]; omega⟩ (by rw [List.getElem?_map, List.getElem?_range (by omega)]; show some (gMt γ (oF f ((Int.toNat ((i : Nat) : Int) : Nat) : Int) 0)) = _; rw [Int.toNat_of_nonneg (by omega)])) (as := [.int (iI ((i : Nat) : Int))]) hMa rfl rfl rfl rfl (by decide) (by decide) (k8 rfl) ?_
      have hmm := kWf_m hC.2.2 (m := ((i : Nat) : Int)) (by omega) (by omega)
      have hmx := rp_Mx hC (m := ((i : Nat) : Int)) (by omega) (by omega)
      obtain ⟨arE, cE, hMd⟩ := rp_Md hC (m := ((i : Nat) : Int)) (by omega) (by omega)
      obtain ⟨mcE, hMe⟩ := hMd.1
      refine k_cast (r := (RX2, TX2, 6)) (pc1 := 28) dX5_yesShare_25 rfl cl_RX5_76 (rp_M hC (m := ((i : Nat) : Int)) (by omega) (by omega)) rfl ?_
      refine k_astore (pc1 := 30) dX5_yesShare_28 rfl (by decide) (k_loc (L' := [some (.ref pl), some (.int (iI (ksm (fun m => ksm (fun p => kB (oF f (m : Int) (4 + (p : Int)) = 121)) 6) i))), some (.int (iI ((ksm (fun m => ksm (fun p => kB (oF f (m : Int) (4 + (p : Int)) = 121 ∨ oF f (m : Int) (4 + (p : Int)) = 110)) 6) i) - (ksm (fun m => ksm (fun p => kB (oF f (m : Int) (4 + (p : Int)) = 121)) 6) i)))), some (.int (iI ((i : Nat) : Int))), some (.ref (gMt γ (oF f ((i : Nat) : Int) 0)))]) rfl ?_)
      refine k_iload_n (pc1 := 31) dX5_yesShare_30 rfl rfl ?_
      refine k_aload (pc1 := 33) dX5_yesShare_31 rfl rfl ?_
      refine k_get (pc1 := 36) dX5_yesShare_33 rfl fd_RX5_259 (rp_M hC (m := ((i : Nat) : Int)) (by omega) (by omega)) (v := .int (iI (((aYs A (oF f ((i : Nat) : Int) 0)) : Nat) : Int))) rfl ?_
      refine k_callSP dX5_yesShare_36 rfl lk_RX5_262 o_J6_bitCount_0f7a4 (w_bitc hl (aYs A (oF f ((i : Nat) : Int) 0)) (by first | omega | exact kmk_lt _ 6 | exact exM_lt ⟨by omega, by omega⟩ (by first | omega | exact kmk_lt _ 6) | assumption)) (as := [.int (iI (((aYs A (oF f ((i : Nat) : Int) 0)) : Nat) : Int))]) rfl rfl rfl (by decide) (by decide) (k8 rfl) ?_
      refine k_iadd (a := (ksm (fun m => ksm (fun p => kB (oF f (m : Int) (4 + (p : Int)) = 121)) 6) i)) (b := (kpo (aYs A (oF f ((i : Nat) : Int) 0)) 6)) (pc1 := 40) dX5_yesShare_39 rfl ?_
      refine k_istore_n (pc1 := 41) dX5_yesShare_40 rfl (by decide) (k_loc (L' := [some (.ref pl), some (.int (iI ((ksm (fun m => ksm (fun p => kB (oF f (m : Int) (4 + (p : Int)) = 121)) 6) i) + (kpo (aYs A (oF f ((i : Nat) : Int) 0)) 6)))), some (.int (iI ((ksm (fun m => ksm (fun p => kB (oF f (m : Int) (4 + (p : Int)) = 121 ∨ oF f (m : Int) (4 + (p : Int)) = 110)) 6) i) - (ksm (fun m => ksm (fun p => kB (oF f (m : Int) (4 + (p : Int)) = 121)) 6) i)))), some (.int (iI ((i : Nat) : Int))), some (.ref (gMt γ (oF f ((i : Nat) : Int) 0)))]) rfl ?_)
      refine k_iload_n (pc1 := 42) dX5_yesShare_41 rfl rfl ?_
      refine k_aload (pc1 := 44) dX5_yesShare_42 rfl rfl ?_
      refine k_get (pc1 := 47) dX5_yesShare_44 rfl fd_RX5_267 (rp_M hC (m := ((i : Nat) : Int)) (by omega) (by omega)) (v := .int (iI (((aNo A (oF f ((i : Nat) : Int) 0)) : Nat) : Int))) rfl ?_
      refine k_callSP dX5_yesShare_47 rfl lk_RX5_262 o_J6_bitCount_0f7a4 (w_bitc hl (aNo A (oF f ((i : Nat) : Int) 0)) (by first | omega | exact kmk_lt _ 6 | exact exM_lt ⟨by omega, by omega⟩ (by first | omega | exact kmk_lt _ 6) | assumption)) (as := [.int (iI (((aNo A (oF f ((i : Nat) : Int) 0)) : Nat) : Int))]) rfl rfl rfl (by decide) (by decide) (k8 rfl) ?_
      refine k_iadd (a := ((ksm (fun m => ksm (fun p => kB (oF f (m : Int) (4 + (p : Int)) = 121 ∨ oF f (m : Int) (4 + (p : Int)) = 110)) 6) i) - (ksm (fun m => ksm (fun p => kB (oF f (m : Int) (4 + (p : Int)) = 121)) 6) i))) (b := (kpo (aNo A (oF f ((i : Nat) : Int) 0)) 6)) (pc1 := 51) dX5_yesShare_50 rfl ?_
      refine k_istore_n (pc1 := 52) dX5_yesShare_51 rfl (by decide) (k_loc (L' := [some (.ref pl), some (.int (iI ((ksm (fun m => ksm (fun p => kB (oF f (m : Int) (4 + (p : Int)) = 121)) 6) i) + (kpo (aYs A (oF f ((i : Nat) : Int) 0)) 6)))), some (.int (iI (((ksm (fun m => ksm (fun p => kB (oF f (m : Int) (4 + (p : Int)) = 121 ∨ oF f (m : Int) (4 + (p : Int)) = 110)) 6) i) - (ksm (fun m => ksm (fun p => kB (oF f (m : Int) (4 + (p : Int)) = 121)) 6) i)) + (kpo (aNo A (oF f ((i : Nat) : Int) 0)) 6)))), some (.int (iI ((i : Nat) : Int))), some (.ref (gMt γ (oF f ((i : Nat) : Int) 0)))]) rfl ?_)
      refine k_iinc (a := ((i : Nat) : Int)) (pc1 := 55) dX5_yesShare_52 rfl rfl (by decide) (k_loc (L' := [some (.ref pl), some (.int (iI ((ksm (fun m => ksm (fun p => kB (oF f (m : Int) (4 + (p : Int)) = 121)) 6) i) + (kpo (aYs A (oF f ((i : Nat) : Int) 0)) 6)))), some (.int (iI (((ksm (fun m => ksm (fun p => kB (oF f (m : Int) (4 + (p : Int)) = 121 ∨ oF f (m : Int) (4 + (p : Int)) = 110)) 6) i) - (ksm (fun m => ksm (fun p => kB (oF f (m : Int) (4 + (p : Int)) = 121)) 6) i)) + (kpo (aNo A (oF f ((i : Nat) : Int) 0)) 6)))), some (.int (iI (((i : Nat) : Int) + 1))), some (.ref (gMt γ (oF f ((i : Nat) : Int) 0)))]) rfl ?_)
      refine k_goto dX5_yesShare_55 (tgt := 6) rfl ?_
      refine k_forget 4 (k_loc (L' := [some (.ref pl), some (.int (iI ((ksm (fun m => ksm (fun p => kB (oF f (m : Int) (4 + (p : Int)) = 121)) 6) i) + (kpo (aYs A (oF f ((i : Nat) : Int) 0)) 6)))), some (.int (iI (((ksm (fun m => ksm (fun p => kB (oF f (m : Int) (4 + (p : Int)) = 121 ∨ oF f (m : Int) (4 + (p : Int)) = 110)) 6) i) - (ksm (fun m => ksm (fun p => kB (oF f (m : Int) (4 + (p : Int)) = 121)) 6) i)) + (kpo (aNo A (oF f ((i : Nat) : Int) 0)) 6)))), some (.int (iI (((i : Nat) : Int) + 1))), none]) rfl ?_)
      obtain ⟨hy1, hy2⟩ := ys_eq hC (m := ((i : Nat) : Int)) (by omega) (by omega)
      have e1 : (ksm (fun m => ksm (fun p => kB (oF f (m : Int) (4 + (p : Int)) = 121)) 6) (i + 1)) = ((ksm (fun m => ksm (fun p => kB (oF f (m : Int) (4 + (p : Int)) = 121)) 6) i) + (kpo (aYs A (oF f ((i : Nat) : Int) 0)) 6)) := congrArg (fun z => (ksm (fun m => ksm (fun p => kB (oF f (m : Int) (4 + (p : Int)) = 121)) 6) i) + z) hy1.symm
      have ea : (ksm (fun m => ksm (fun p => kB (oF f (m : Int) (4 + (p : Int)) = 121 ∨ oF f (m : Int) (4 + (p : Int)) = 110)) 6) (i + 1)) = (ksm (fun m => ksm (fun p => kB (oF f (m : Int) (4 + (p : Int)) = 121 ∨ oF f (m : Int) (4 + (p : Int)) = 110)) 6) i) + ksm (fun p => kB (oF f ((i : Nat) : Int) (4 + (p : Int)) = 121 ∨ oF f ((i : Nat) : Int) (4 + (p : Int)) = 110)) 6 := rfl
      have e2 : (ksm (fun m => ksm (fun p => kB (oF f (m : Int) (4 + (p : Int)) = 121 ∨ oF f (m : Int) (4 + (p : Int)) = 110)) 6) (i + 1)) - (ksm (fun m => ksm (fun p => kB (oF f (m : Int) (4 + (p : Int)) = 121)) 6) (i + 1)) = (((ksm (fun m => ksm (fun p => kB (oF f (m : Int) (4 + (p : Int)) = 121 ∨ oF f (m : Int) (4 + (p : Int)) = 110)) 6) i) - (ksm (fun m => ksm (fun p => kB (oF f (m : Int) (4 + (p : Int)) = 121)) 6) i)) + (kpo (aNo A (oF f ((i : Nat) : Int) 0)) 6)) := by rw [ea, e1]; omega
      refine k_loc (L' := [some (.ref pl), some (.int (iI (ksm (fun m => ksm (fun p => kB (oF f (m : Int) (4 + (p : Int)) = 121)) 6) (i + 1)))), some (.int (iI ((ksm (fun m => ksm (fun p => kB (oF f (m : Int) (4 + (p : Int)) = 121 ∨ oF f (m : Int) (4 + (p : Int)) = 110)) 6) (i + 1)) - (ksm (fun m => ksm (fun p => kB (oF f (m : Int) (4 + (p : Int)) = 121)) 6) (i + 1))))), some (.int (iI (((i : Nat) : Int) + 1))), none]) (by rw [e2, e1]) ?_
      exact ih6 _ (by omega) (i + 1) rfl (by omega)
  exact hloop6 _ 0 rfl (by omega)
theorem w_yesT {l : Launch} {G : kG} {h : kAH} (hl : l.stackTraces = false) {pl : Nat} {γ : kGh} {A : kAb} {f : Nat → Int} (hC : kRp G h pl γ A f) (hc : alF f = 0) : kC l G m_X5_yesShare 4 1 6 [.ref pl] h kNv (kTh "java/lang/ArithmeticException" h) := by
  refine kC_of hl rfl rfl (Nat.le_of_ble_eq_true rfl) (L := [some (.ref pl), none, none, none, none]) rfl ?_
  obtain ⟨arM, cM, hMl⟩ := rp_Ml hC
  obtain ⟨mcM, hMa⟩ := hMl.1
  have h8 := kWf_cnt hC.2.2
  refine k_iconst (pc1 := 1) dX5_yesShare_0 rfl ?_
  refine k_istore_n (pc1 := 2) dX5_yesShare_1 rfl (by decide) (k_loc (L' := [some (.ref pl), some (.int (iI 0)), none, none, none]) rfl ?_)
  refine k_iconst (pc1 := 3) dX5_yesShare_2 rfl ?_
  refine k_istore_n (pc1 := 4) dX5_yesShare_3 rfl (by decide) (k_loc (L' := [some (.ref pl), some (.int (iI 0)), some (.int (iI 0)), none, none]) rfl ?_)
  refine k_iconst (pc1 := 5) dX5_yesShare_4 rfl ?_
  refine k_istore_n (pc1 := 6) dX5_yesShare_5 rfl (by decide) (k_loc (L' := [some (.ref pl), some (.int (iI 0)), some (.int (iI 0)), some (.int (iI 0)), none]) rfl ?_)
  have hloop6 : ∀ (zz : Nat) (i : Nat), zz = (f 1 - ((i : Nat) : Int)).toNat → (((i : Nat) : Int) ≤ f 1) → kW l G m_X5_yesShare 4 kNv (kTh "java/lang/ArithmeticException" h) 1 6 6 [some (.ref pl), some (.int (iI (ksm (fun m => ksm (fun p => kB (oF f (m : Int) (4 + (p : Int)) = 121)) 6) i))), some (.int (iI ((ksm (fun m => ksm (fun p => kB (oF f (m : Int) (4 + (p : Int)) = 121 ∨ oF f (m : Int) (4 + (p : Int)) = 110)) 6) i) - (ksm (fun m => ksm (fun p => kB (oF f (m : Int) (4 + (p : Int)) = 121)) 6) i)))), some (.int (iI ((i : Nat) : Int))), none] [] h := by
    intro zz
    induction zz using Nat.strongRecOn with
    | ind zz ih6 =>
    intro i hr6 hi9
    refine k_iload_n (pc1 := 7) dX5_yesShare_6 rfl rfl ?_
    refine k_aload_n (pc1 := 8) dX5_yesShare_7 rfl rfl ?_
    refine k_get (pc1 := 11) dX5_yesShare_8 rfl fd_RX5_28 (rp_P hC) (v := .ref (gMl γ)) rfl ?_
    refine k_callVP dX5_yesShare_11 rfl lk_RX5_65 o_Jx4a65c_size_8abf5 (w_lsz hl hMl) (as := []) hMa rfl rfl rfl rfl (by decide) (by decide) (k8 rfl) ?_
    refine k_val (v' := .int (iI (f 1))) (congrArg (fun z : Int => Value.int (iI z)) (by rw [List.length_map, List.length_range]; omega)) ?_
    refine k_icmp_ge (a := ((i : Nat) : Int)) (b := (f 1)) dX5_yesShare_14 rfl (tgt := 58) rfl (by omega) (by omega) (fun c14 : (f 1) ≤ ((i : Nat) : Int) => ?_) (fun c14 : ((i : Nat) : Int) < (f 1) => ?_)
    · skip
      have ei : i = (f 1).toNat := by omega
      subst ei
      have hyr := ysF_r (f := f) h8
      refine k_loc (L' := [some (.ref pl), some (.int (iI (ysF f))), some (.int (iI (alF f - ysF f))), some (.int (iI (((f 1).toNat : Nat) : Int))), none]) rfl ?_
      refine k_iload_n (pc1 := 59) dX5_yesShare_58 rfl rfl ?_
      refine k_iload_n (pc1 := 60) dX5_yesShare_59 rfl rfl ?_
      refine k_iadd (a := (ysF f)) (b := (alF f - ysF f)) (pc1 := 61) dX5_yesShare_60 rfl ?_
      refine k_val (v' := .int (iI (alF f))) (congrArg (fun z => Value.int (iI z)) (by omega)) ?_
      refine k_if_ne (a := (alF f)) dX5_yesShare_61 rfl (tgt := 75) rfl (by omega) (fun c61 : (alF f) ≠ 0 => ?_) (fun c61 : (alF f) = 0 => ?_)
      · skip
        exfalso; omega
      · skip
        exact k_throwW 67 68 71 74 rfl dX5_yesShare_64 dX5_yesShare_67 dX5_yesShare_68 dX5_yesShare_71 dX5_yesShare_74 rfl rfl rfl rfl rfl (by decide) (by decide) cl_RX5_254 ini_ArithmeticException (text := "neither yes nor no") (by decide +kernel) at_RX5_258 (k8 rfl) (by decide) (by decide) ⟨rfl, rfl⟩
    · skip
      refine k_aload_n (pc1 := 18) dX5_yesShare_17 rfl rfl ?_
      refine k_get (pc1 := 21) dX5_yesShare_18 rfl fd_RX5_28 (rp_P hC) (v := .ref (gMl γ)) rfl ?_
      refine k_iload_n (pc1 := 22) dX5_yesShare_21 rfl rfl ?_
      refine k_callVP dX5_yesShare_22 rfl lk_RX5_131 o_Jx4a65c_get_915e3 (w_lgt hl hMl ((i : Nat) : Int) ⟨by omega, by rw [List.length_map, List.length_range]; omega⟩ (by rw [List.getElem?_map, List.getElem?_range (by omega)]; show some (gMt γ (oF f ((Int.toNat ((i : Nat) : Int) : Nat) : Int) 0)) = _; rw [Int.toNat_of_nonneg (by omega)])) (as := [.int (iI ((i : Nat) : Int))]) hMa rfl rfl rfl rfl (by decide) (by decide) (k8 rfl) ?_
      have hmm := kWf_m hC.2.2 (m := ((i : Nat) : Int)) (by omega) (by omega)
      have hmx := rp_Mx hC (m := ((i : Nat) : Int)) (by omega) (by omega)
      obtain ⟨arE, cE, hMd⟩ := rp_Md hC (m := ((i : Nat) : Int)) (by omega) (by omega)
      obtain ⟨mcE, hMe⟩ := hMd.1
      refine k_cast (r := (RX2, TX2, 6)) (pc1 := 28) dX5_yesShare_25 rfl cl_RX5_76 (rp_M hC (m := ((i : Nat) : Int)) (by omega) (by omega)) rfl ?_
      refine k_astore (pc1 := 30) dX5_yesShare_28 rfl (by decide) (k_loc (L' := [some (.ref pl), some (.int (iI (ksm (fun m => ksm (fun p => kB (oF f (m : Int) (4 + (p : Int)) = 121)) 6) i))), some (.int (iI ((ksm (fun m => ksm (fun p => kB (oF f (m : Int) (4 + (p : Int)) = 121 ∨ oF f (m : Int) (4 + (p : Int)) = 110)) 6) i) - (ksm (fun m => ksm (fun p => kB (oF f (m : Int) (4 + (p : Int)) = 121)) 6) i)))), some (.int (iI ((i : Nat) : Int))), some (.ref (gMt γ (oF f ((i : Nat) : Int) 0)))]) rfl ?_)
      refine k_iload_n (pc1 := 31) dX5_yesShare_30 rfl rfl ?_
      refine k_aload (pc1 := 33) dX5_yesShare_31 rfl rfl ?_
      refine k_get (pc1 := 36) dX5_yesShare_33 rfl fd_RX5_259 (rp_M hC (m := ((i : Nat) : Int)) (by omega) (by omega)) (v := .int (iI (((aYs A (oF f ((i : Nat) : Int) 0)) : Nat) : Int))) rfl ?_
      refine k_callSP dX5_yesShare_36 rfl lk_RX5_262 o_J6_bitCount_0f7a4 (w_bitc hl (aYs A (oF f ((i : Nat) : Int) 0)) (by first | omega | exact kmk_lt _ 6 | exact exM_lt ⟨by omega, by omega⟩ (by first | omega | exact kmk_lt _ 6) | assumption)) (as := [.int (iI (((aYs A (oF f ((i : Nat) : Int) 0)) : Nat) : Int))]) rfl rfl rfl (by decide) (by decide) (k8 rfl) ?_
      refine k_iadd (a := (ksm (fun m => ksm (fun p => kB (oF f (m : Int) (4 + (p : Int)) = 121)) 6) i)) (b := (kpo (aYs A (oF f ((i : Nat) : Int) 0)) 6)) (pc1 := 40) dX5_yesShare_39 rfl ?_
      refine k_istore_n (pc1 := 41) dX5_yesShare_40 rfl (by decide) (k_loc (L' := [some (.ref pl), some (.int (iI ((ksm (fun m => ksm (fun p => kB (oF f (m : Int) (4 + (p : Int)) = 121)) 6) i) + (kpo (aYs A (oF f ((i : Nat) : Int) 0)) 6)))), some (.int (iI ((ksm (fun m => ksm (fun p => kB (oF f (m : Int) (4 + (p : Int)) = 121 ∨ oF f (m : Int) (4 + (p : Int)) = 110)) 6) i) - (ksm (fun m => ksm (fun p => kB (oF f (m : Int) (4 + (p : Int)) = 121)) 6) i)))), some (.int (iI ((i : Nat) : Int))), some (.ref (gMt γ (oF f ((i : Nat) : Int) 0)))]) rfl ?_)
      refine k_iload_n (pc1 := 42) dX5_yesShare_41 rfl rfl ?_
      refine k_aload (pc1 := 44) dX5_yesShare_42 rfl rfl ?_
      refine k_get (pc1 := 47) dX5_yesShare_44 rfl fd_RX5_267 (rp_M hC (m := ((i : Nat) : Int)) (by omega) (by omega)) (v := .int (iI (((aNo A (oF f ((i : Nat) : Int) 0)) : Nat) : Int))) rfl ?_
      refine k_callSP dX5_yesShare_47 rfl lk_RX5_262 o_J6_bitCount_0f7a4 (w_bitc hl (aNo A (oF f ((i : Nat) : Int) 0)) (by first | omega | exact kmk_lt _ 6 | exact exM_lt ⟨by omega, by omega⟩ (by first | omega | exact kmk_lt _ 6) | assumption)) (as := [.int (iI (((aNo A (oF f ((i : Nat) : Int) 0)) : Nat) : Int))]) rfl rfl rfl (by decide) (by decide) (k8 rfl) ?_
      refine k_iadd (a := ((ksm (fun m => ksm (fun p => kB (oF f (m : Int) (4 + (p : Int)) = 121 ∨ oF f (m : Int) (4 + (p : Int)) = 110)) 6) i) - (ksm (fun m => ksm (fun p => kB (oF f (m : Int) (4 + (p : Int)) = 121)) 6) i))) (b := (kpo (aNo A (oF f ((i : Nat) : Int) 0)) 6)) (pc1 := 51) dX5_yesShare_50 rfl ?_
      refine k_istore_n (pc1 := 52) dX5_yesShare_51 rfl (by decide) (k_loc (L' := [some (.ref pl), some (.int (iI ((ksm (fun m => ksm (fun p => kB (oF f (m : Int) (4 + (p : Int)) = 121)) 6) i) + (kpo (aYs A (oF f ((i : Nat) : Int) 0)) 6)))), some (.int (iI (((ksm (fun m => ksm (fun p => kB (oF f (m : Int) (4 + (p : Int)) = 121 ∨ oF f (m : Int) (4 + (p : Int)) = 110)) 6) i) - (ksm (fun m => ksm (fun p => kB (oF f (m : Int) (4 + (p : Int)) = 121)) 6) i)) + (kpo (aNo A (oF f ((i : Nat) : Int) 0)) 6)))), some (.int (iI ((i : Nat) : Int))), some (.ref (gMt γ (oF f ((i : Nat) : Int) 0)))]) rfl ?_)
      refine k_iinc (a := ((i : Nat) : Int)) (pc1 := 55) dX5_yesShare_52 rfl rfl (by decide) (k_loc (L' := [some (.ref pl), some (.int (iI ((ksm (fun m => ksm (fun p => kB (oF f (m : Int) (4 + (p : Int)) = 121)) 6) i) + (kpo (aYs A (oF f ((i : Nat) : Int) 0)) 6)))), some (.int (iI (((ksm (fun m => ksm (fun p => kB (oF f (m : Int) (4 + (p : Int)) = 121 ∨ oF f (m : Int) (4 + (p : Int)) = 110)) 6) i) - (ksm (fun m => ksm (fun p => kB (oF f (m : Int) (4 + (p : Int)) = 121)) 6) i)) + (kpo (aNo A (oF f ((i : Nat) : Int) 0)) 6)))), some (.int (iI (((i : Nat) : Int) + 1))), some (.ref (gMt γ (oF f ((i : Nat) : Int) 0)))]) rfl ?_)
      refine k_goto dX5_yesShare_55 (tgt := 6) rfl ?_
      refine k_forget 4 (k_loc (L' := [some (.ref pl), some (.int (iI ((ksm (fun m => ksm (fun p => kB (oF f (m : Int) (4 + (p : Int)) = 121)) 6) i) + (kpo (aYs A (oF f ((i : Nat) : Int) 0)) 6)))), some (.int (iI (((ksm (fun m => ksm (fun p => kB (oF f (m : Int) (4 + (p : Int)) = 121 ∨ oF f (m : Int) (4 + (p : Int)) = 110)) 6) i) - (ksm (fun m => ksm (fun p => kB (oF f (m : Int) (4 + (p : Int)) = 121)) 6) i)) + (kpo (aNo A (oF f ((i : Nat) : Int) 0)) 6)))), some (.int (iI (((i : Nat) : Int) + 1))), none]) rfl ?_)
      obtain ⟨hy1, hy2⟩ := ys_eq hC (m := ((i : Nat) : Int)) (by omega) (by omega)
      have e1 : (ksm (fun m => ksm (fun p => kB (oF f (m : Int) (4 + (p : Int)) = 121)) 6) (i + 1)) = ((ksm (fun m => ksm (fun p => kB (oF f (m : Int) (4 + (p : Int)) = 121)) 6) i) + (kpo (aYs A (oF f ((i : Nat) : Int) 0)) 6)) := congrArg (fun z => (ksm (fun m => ksm (fun p => kB (oF f (m : Int) (4 + (p : Int)) = 121)) 6) i) + z) hy1.symm
      have ea : (ksm (fun m => ksm (fun p => kB (oF f (m : Int) (4 + (p : Int)) = 121 ∨ oF f (m : Int) (4 + (p : Int)) = 110)) 6) (i + 1)) = (ksm (fun m => ksm (fun p => kB (oF f (m : Int) (4 + (p : Int)) = 121 ∨ oF f (m : Int) (4 + (p : Int)) = 110)) 6) i) + ksm (fun p => kB (oF f ((i : Nat) : Int) (4 + (p : Int)) = 121 ∨ oF f ((i : Nat) : Int) (4 + (p : Int)) = 110)) 6 := rfl
      have e2 : (ksm (fun m => ksm (fun p => kB (oF f (m : Int) (4 + (p : Int)) = 121 ∨ oF f (m : Int) (4 + (p : Int)) = 110)) 6) (i + 1)) - (ksm (fun m => ksm (fun p => kB (oF f (m : Int) (4 + (p : Int)) = 121)) 6) (i + 1)) = (((ksm (fun m => ksm (fun p => kB (oF f (m : Int) (4 + (p : Int)) = 121 ∨ oF f (m : Int) (4 + (p : Int)) = 110)) 6) i) - (ksm (fun m => ksm (fun p => kB (oF f (m : Int) (4 + (p : Int)) = 121)) 6) i)) + (kpo (aNo A (oF f ((i : Nat) : Int) 0)) 6)) := by rw [ea, e1]; omega
      refine k_loc (L' := [some (.ref pl), some (.int (iI (ksm (fun m => ksm (fun p => kB (oF f (m : Int) (4 + (p : Int)) = 121)) 6) (i + 1)))), some (.int (iI ((ksm (fun m => ksm (fun p => kB (oF f (m : Int) (4 + (p : Int)) = 121 ∨ oF f (m : Int) (4 + (p : Int)) = 110)) 6) (i + 1)) - (ksm (fun m => ksm (fun p => kB (oF f (m : Int) (4 + (p : Int)) = 121)) 6) (i + 1))))), some (.int (iI (((i : Nat) : Int) + 1))), none]) (by rw [e2, e1]) ?_
      exact ih6 _ (by omega) (i + 1) rfl (by omega)
  exact hloop6 _ 0 rfl (by omega)
