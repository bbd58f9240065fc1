theorem ki_at {rr : Nat → Int} {j x : Nat} {v : Int} (h : j + 1 = x) : kiu rr x v (j + 1) = v := if_pos h
theorem ki_off {rr : Nat → Int} {j x : Nat} {v : Int} (h : j + 1 ≠ x) : kiu rr x v (j + 1) = rr (j + 1) := if_neg h
/-! ===== the reference: extend, walked ===== -/
theorem w_X6_extend {l : Launch} {G : kG} {h : kAH} {o g r : Nat} {c : Int} {f : Nat → Int} (hl : l.stackTraces = false) (hM : kMd G h o g r c (-1) (-1) f) (hW : kWf f) (n k e : Int) (rn : -2147483648 ≤ n ∧ n < 2147483648) (rk : -2147483648 ≤ k ∧ k < 2147483648) (re : -2147483648 ≤ e ∧ e < 2147483648) : kC l G m_X6_extend 7 0 0 [.ref o, .int (iI n), .int (iI k), .int (iI e)] h (kMw G o g r (Textend f n k e) h) kNo := by
  have hwm : -1 ≤ (-1 : Int) ∧ (-1 : Int) < 8 := by decide
  have hwd : -1 ≤ (-1 : Int) ∧ (-1 : Int) < 6 := by decide
  have h8 := kWf_cnt hW
  have h9 := kWf_nxt hW
  have hat := atF_r (n := n) h8.1
  obtain ⟨rr, hR⟩ := hM.2.2
  have hro := (kMd_og hM).2.1
  have hrg := (kMd_og hM).2.2
  refine kC_of hl rfl rfl (Nat.le_of_ble_eq_true rfl) (L := [some (.ref o), some (.int (iI n)), some (.int (iI k)), some (.int (iI e)), none, none, none, none, none, none]) rfl ?_
  refine k_aload_n (pc1 := 1) dX6_extend_0 rfl rfl ?_
  refine k_iload_n (pc1 := 2) dX6_extend_1 rfl rfl ?_
  refine k_callVP dX6_extend_2 rfl lk_RX6_96 o_X6_at (w_X6_at hl hM n hW (by omega)) (as := [.int (iI n)]) hM.1 rfl rfl rfl rfl (by decide) (by decide) (k8 rfl) ?_
  refine k_istore (pc1 := 7) dX6_extend_5 rfl (by decide) (k_loc (L' := [some (.ref o), some (.int (iI n)), some (.int (iI k)), some (.int (iI e)), some (.int (iI (atF f n))), none, none, none, none, none]) rfl ?_)
  refine k_aload_n (pc1 := 8) dX6_extend_7 rfl rfl ?_
  refine k_iload (pc1 := 10) dX6_extend_8 rfl rfl ?_
  refine k_if_ge (a := (atF f n)) dX6_extend_10 rfl (tgt := 17) rfl (by omega) (fun c10 : 0 ≤ (atF f n) => ?_) (fun c10 : (atF f n) < 0 => ?_)
  · skip
    refine k_iload_n (pc1 := 18) dX6_extend_17 rfl rfl ?_
    refine k_iconst (pc1 := 19) dX6_extend_18 rfl ?_
    refine k_bipush 14 (pc1 := 21) dX6_extend_19 rfl (by decide) ?_
    refine k_callSP dX6_extend_21 rfl lk_RX6_26 o_X6_in (w_X6_in hl k 1 14 (by omega) (by decide) (by decide)) (as := [.int (iI k), .int (iI 1), .int (iI 14)]) rfl rfl rfl (by decide) (by decide) (k8 rfl) ?_
    refine k_if_eq (a := kB (1 ≤ k ∧ k ≤ 14)) dX6_extend_24 rfl (tgt := 40) rfl (kB_r _) (fun c24 : kB (1 ≤ k ∧ k ≤ 14) = 0 => ?_) (fun c24 : kB (1 ≤ k ∧ k ≤ 14) ≠ 0 => ?_)
    · replace c24 : ¬(1 ≤ k ∧ k ≤ 14) := kB_z.mp c24
      refine k_iconst (pc1 := 41) dX6_extend_40 rfl ?_
      refine k_callVM (c' := 2) (wm' := (-1)) (wd' := (-1)) (f' := f) (v := .int (iI 1)) dX6_extend_41 rfl lk_RX6_34 o_X6_fails hM (w_X6_failsT hl hM (by decide)) (as := [.int (iI 2)]) rfl rfl rfl (by decide) (by decide) (k8 rfl) (fun h198 hM198 hX198 => ?_)
      have hF198 := kFw_tr (kFm_rf o g r h).w hX198.w
      have hR198 := (hX198 r hro hrg).trans hR
      refine k_if_eq (a := 1) dX6_extend_44 rfl (tgt := 49) rfl (by decide) (fun c => absurd c (by decide)) (fun _ => ?_)
      refine k_iconst (pc1 := 48) dX6_extend_47 rfl ?_
      exact k_iret dX6_extend_48 rfl rfl (kMw_mk (c1 := 2) (v1 := 0) (f1 := f) (by unfold Textend; first | exact kI_t (by omega) | exact (kI_f (by omega)).trans (kI_f (by omega))) hM198 hF198)
    · replace c24 : (1 ≤ k ∧ k ≤ 14) := kB_nz.mp c24
      refine k_iload_n (pc1 := 28) dX6_extend_27 rfl rfl ?_
      refine k_iconst (pc1 := 29) dX6_extend_28 rfl ?_
      refine k_iconst (pc1 := 30) dX6_extend_29 rfl ?_
      refine k_callSP dX6_extend_30 rfl lk_RX6_26 o_X6_in (w_X6_in hl e 1 5 (by omega) (by decide) (by decide)) (as := [.int (iI e), .int (iI 1), .int (iI 5)]) rfl rfl rfl (by decide) (by decide) (k8 rfl) ?_
      refine k_if_eq (a := kB (1 ≤ e ∧ e ≤ 5)) dX6_extend_33 rfl (tgt := 40) rfl (kB_r _) (fun c33 : kB (1 ≤ e ∧ e ≤ 5) = 0 => ?_) (fun c33 : kB (1 ≤ e ∧ e ≤ 5) ≠ 0 => ?_)
      · replace c33 : ¬(1 ≤ e ∧ e ≤ 5) := kB_z.mp c33
        refine k_iconst (pc1 := 41) dX6_extend_40 rfl ?_
        refine k_callVM (c' := 2) (wm' := (-1)) (wd' := (-1)) (f' := f) (v := .int (iI 1)) dX6_extend_41 rfl lk_RX6_34 o_X6_fails hM (w_X6_failsT hl hM (by decide)) (as := [.int (iI 2)]) rfl rfl rfl (by decide) (by decide) (k8 rfl) (fun h199 hM199 hX199 => ?_)
        have hF199 := kFw_tr (kFm_rf o g r h).w hX199.w
        have hR199 := (hX199 r hro hrg).trans hR
        refine k_if_eq (a := 1) dX6_extend_44 rfl (tgt := 49) rfl (by decide) (fun c => absurd c (by decide)) (fun _ => ?_)
        refine k_iconst (pc1 := 48) dX6_extend_47 rfl ?_
        exact k_iret dX6_extend_48 rfl rfl (kMw_mk (c1 := 2) (v1 := 0) (f1 := f) (by unfold Textend; first | exact kI_t (by omega) | exact (kI_f (by omega)).trans (kI_f (by omega))) hM199 hF199)
      · replace c33 : (1 ≤ e ∧ e ≤ 5) := kB_nz.mp c33
        refine k_iconst (pc1 := 37) dX6_extend_36 rfl ?_
        refine k_goto dX6_extend_37 (tgt := 41) rfl ?_
        refine k_callVM (c' := 0) (wm' := (-1)) (wd' := (-1)) (f' := f) (v := .int (iI 0)) dX6_extend_41 rfl lk_RX6_34 o_X6_fails hM (w_X6_failsF hl hM) (as := [.int (iI 0)]) rfl rfl rfl (by decide) (by decide) (k8 rfl) (fun h200 hM200 hX200 => ?_)
        have hF200 := kFw_tr (kFm_rf o g r h).w hX200.w
        have hR200 := (hX200 r hro hrg).trans hR
        refine k_if_eq (a := 0) dX6_extend_44 rfl (tgt := 49) rfl (by decide) (fun _ => ?_) (fun c => absurd c (by decide))
        have hmm := kWf_m hW (m := atF f n) (by omega) (by omega)
        have hdd := kWf_d hW (m := atF f n) (d := oF f (atF f n) 3 - 1) (by omega) (by omega) (by omega) (by omega)
        have hpl := ppF_lt f (atF f n)
        have hke := kmul_r (k := k) (j := e) ⟨by omega, by omega⟩ ⟨by omega, by omega⟩
        refine k_aload_n (pc1 := 50) dX6_extend_49 rfl rfl ?_
        refine k_iload (pc1 := 52) dX6_extend_50 rfl rfl ?_
        refine k_iconst (pc1 := 53) dX6_extend_52 rfl ?_
        refine k_callVP dX6_extend_53 rfl lk_RX6_37 o_X6_of (w_X6_of hl hM200 (atF f n) 3 (by omega) (by omega)) (as := [.int (iI (atF f n)), .int (iI 3)]) hM200.1 rfl rfl rfl rfl (by decide) (by decide) (k8 rfl) ?_
        refine k_iconst (pc1 := 57) dX6_extend_56 rfl ?_
        refine k_isub (a := (oF f (atF f n) 3)) (b := 1) (pc1 := 58) dX6_extend_57 rfl ?_
        refine k_istore (pc1 := 60) dX6_extend_58 rfl (by decide) (k_loc (L' := [some (.ref o), some (.int (iI n)), some (.int (iI k)), some (.int (iI e)), some (.int (iI (atF f n))), some (.int (iI ((oF f (atF f n) 3) - 1))), none, none, none, none]) rfl ?_)
        refine k_aload_n (pc1 := 61) dX6_extend_60 rfl rfl ?_
        refine k_iload (pc1 := 63) dX6_extend_61 rfl rfl ?_
        refine k_iload (pc1 := 65) dX6_extend_63 rfl rfl ?_
        refine k_iconst (pc1 := 66) dX6_extend_65 rfl ?_
        refine k_callVP dX6_extend_66 rfl lk_RX6_45 o_X6_date (w_X6_date hl hM200 (atF f n) ((oF f (atF f n) 3) - 1) 0 (by omega) (by omega)) (as := [.int (iI (atF f n)), .int (iI ((oF f (atF f n) 3) - 1)), .int (iI 0)]) hM200.1 rfl rfl rfl rfl (by decide) (by decide) (k8 rfl) ?_
        refine k_istore (pc1 := 71) dX6_extend_69 rfl (by decide) (k_loc (L' := [some (.ref o), some (.int (iI n)), some (.int (iI k)), some (.int (iI e)), some (.int (iI (atF f n))), some (.int (iI ((oF f (atF f n) 3) - 1))), some (.int (iI (dF f (atF f n) ((oF f (atF f n) 3) - 1) 0))), none, none, none]) rfl ?_)
        refine k_aload_n (pc1 := 72) dX6_extend_71 rfl rfl ?_
        refine k_iload (pc1 := 74) dX6_extend_72 rfl rfl ?_
        refine k_iload (pc1 := 76) dX6_extend_74 rfl rfl ?_
        refine k_iconst (pc1 := 77) dX6_extend_76 rfl ?_
        refine k_callVP dX6_extend_77 rfl lk_RX6_45 o_X6_date (w_X6_date hl hM200 (atF f n) ((oF f (atF f n) 3) - 1) 1 (by omega) (by omega)) (as := [.int (iI (atF f n)), .int (iI ((oF f (atF f n) 3) - 1)), .int (iI 1)]) hM200.1 rfl rfl rfl rfl (by decide) (by decide) (k8 rfl) ?_
        refine k_istore (pc1 := 82) dX6_extend_80 rfl (by decide) (k_loc (L' := [some (.ref o), some (.int (iI n)), some (.int (iI k)), some (.int (iI e)), some (.int (iI (atF f n))), some (.int (iI ((oF f (atF f n) 3) - 1))), some (.int (iI (dF f (atF f n) ((oF f (atF f n) 3) - 1) 0))), some (.int (iI (dF f (atF f n) ((oF f (atF f n) 3) - 1) 1))), none, none]) rfl ?_)
        refine k_aload_n (pc1 := 83) dX6_extend_82 rfl rfl ?_
        refine k_iload (pc1 := 85) dX6_extend_83 rfl rfl ?_
        refine k_iload_n (pc1 := 86) dX6_extend_85 rfl rfl ?_
        refine k_iload_n (pc1 := 87) dX6_extend_86 rfl rfl ?_
        refine k_imul (a := k) (b := e) (pc1 := 88) dX6_extend_87 rfl ?_
        refine k_iadd (a := (dF f (atF f n) ((oF f (atF f n) 3) - 1) 0)) (b := (k * e)) (pc1 := 89) dX6_extend_88 rfl ?_
        refine k_bipush 28 (pc1 := 91) dX6_extend_89 rfl (by decide) ?_
        refine k_icmp_lt (a := ((dF f (atF f n) ((oF f (atF f n) 3) - 1) 0) + (k * e))) (b := 28) dX6_extend_91 rfl (tgt := 98) rfl (by omega) (by decide) (fun c91 : ((dF f (atF f n) ((oF f (atF f n) 3) - 1) 0) + (k * e)) < 28 => ?_) (fun c91 : 28 ≤ ((dF f (atF f n) ((oF f (atF f n) 3) - 1) 0) + (k * e)) => ?_)
        · skip
          refine k_aload_n (pc1 := 99) dX6_extend_98 rfl rfl ?_
          refine k_iload (pc1 := 101) dX6_extend_99 rfl rfl ?_
          refine k_iconst (pc1 := 102) dX6_extend_101 rfl ?_
          refine k_callVP dX6_extend_102 rfl lk_RX6_37 o_X6_of (w_X6_of hl hM200 (atF f n) 3 (by omega) (by omega)) (as := [.int (iI (atF f n)), .int (iI 3)]) hM200.1 rfl rfl rfl rfl (by decide) (by decide) (k8 rfl) ?_
          refine k_iload_n (pc1 := 106) dX6_extend_105 rfl rfl ?_
          refine k_iadd (a := (oF f (atF f n) 3)) (b := e) (pc1 := 107) dX6_extend_106 rfl ?_
          refine k_bipush 6 (pc1 := 109) dX6_extend_107 rfl (by decide) ?_
          refine k_icmp_le (a := ((oF f (atF f n) 3) + e)) (b := 6) dX6_extend_109 rfl (tgt := 116) rfl (by omega) (by decide) (fun c109 : ((oF f (atF f n) 3) + e) ≤ 6 => ?_) (fun c109 : 6 < ((oF f (atF f n) 3) + e) => ?_)
          · skip
            refine k_iconst (pc1 := 117) dX6_extend_116 rfl ?_
            refine k_callVM (c' := 0) (wm' := (-1)) (wd' := (-1)) (f' := f) (v := .int (iI 0)) dX6_extend_117 rfl lk_RX6_34 o_X6_fails hM200 (w_X6_failsF hl hM200) (as := [.int (iI 0)]) rfl rfl rfl (by decide) (by decide) (k8 rfl) (fun h201 hM201 hX201 => ?_)
            have hF201 := kFw_tr hF200 hX201.w
            have hR201 := (hX201 r hro hrg).trans hR200
            refine k_if_eq (a := 0) dX6_extend_120 rfl (tgt := 125) rfl (by decide) (fun _ => ?_) (fun c => absurd c (by decide))
            refine k_iconst (pc1 := 126) dX6_extend_125 rfl ?_
            refine k_istore (pc1 := 128) dX6_extend_126 rfl (by decide) (k_loc (L' := [some (.ref o), some (.int (iI n)), some (.int (iI k)), some (.int (iI e)), some (.int (iI (atF f n))), some (.int (iI ((oF f (atF f n) 3) - 1))), some (.int (iI (dF f (atF f n) ((oF f (atF f n) 3) - 1) 0))), some (.int (iI (dF f (atF f n) ((oF f (atF f n) 3) - 1) 1))), some (.int (iI 1)), none]) rfl ?_)
            have hloop128 : ∀ (zz : Nat) (i : Nat), zz = (e - ((i : Nat) : Int)).toNat → (((i : Nat) : Int) ≤ e) → (∀ j : Nat, j < i → ¬ (0 ≤ (exB f (atF f n) k ((j : Int) + 1)))) → kW l G m_X6_extend 7 (kMw G o g r (Textend f n k e) h) kNo 0 0 128 [some (.ref o), some (.int (iI n)), some (.int (iI k)), some (.int (iI e)), some (.int (iI (atF f n))), some (.int (iI ((oF f (atF f n) 3) - 1))), some (.int (iI (dF f (atF f n) ((oF f (atF f n) 3) - 1) 0))), some (.int (iI (dF f (atF f n) ((oF f (atF f n) 3) - 1) 1))), some (.int (iI (((i : Nat) : Int) + 1))), none] [] h201 := by
              intro zz
              induction zz using Nat.strongRecOn with
              | ind zz ih128 =>
              intro i hr128 hi hJ
              refine k_iload (pc1 := 130) dX6_extend_128 rfl rfl ?_
              refine k_iload_n (pc1 := 131) dX6_extend_130 rfl rfl ?_
              refine k_icmp_gt (a := (((i : Nat) : Int) + 1)) (b := e) dX6_extend_131 rfl (tgt := 186) rfl (by omega) (by omega) (fun c131 : e < (((i : Nat) : Int) + 1) => ?_) (fun c131 : (((i : Nat) : Int) + 1) ≤ e => ?_)
              · skip
                have eb : exb f (atF f n) k e.toNat = -1 := kls_none (fun j hj => hJ j (by omega))
                refine k_iconst (pc1 := 187) dX6_extend_186 rfl ?_
                refine k_istore (pc1 := 189) dX6_extend_187 rfl (by decide) (k_loc (L' := [some (.ref o), some (.int (iI n)), some (.int (iI k)), some (.int (iI e)), some (.int (iI (atF f n))), some (.int (iI ((oF f (atF f n) 3) - 1))), some (.int (iI (dF f (atF f n) ((oF f (atF f n) 3) - 1) 0))), some (.int (iI (dF f (atF f n) ((oF f (atF f n) 3) - 1) 1))), some (.int (iI 1)), none]) rfl ?_)
                have hloop189 : ∀ (zz : Nat) (i : Nat) (h5 : kAH) (rr1 : Nat → Int), zz = (e - ((i : Nat) : Int)).toNat → (((i : Nat) : Int) ≤ e) → (kMd G h5 o g r 0 (-1) (-1) f) → (kFw o g r h h5) → (h5 r = some (kio G 6 rr1)) → (∀ j : Nat, j < i → ¬ ((exS f (atF f n) k 0 ((j : Int) + 1)) < 0)) → (∀ j : Nat, j < i → rr1 (j + 1) = (exS f (atF f n) k 0 ((j : Int) + 1))) → kW l G m_X6_extend 7 (kMw G o g r (Textend f n k e) h) kNo 0 0 189 [some (.ref o), some (.int (iI n)), some (.int (iI k)), some (.int (iI e)), some (.int (iI (atF f n))), some (.int (iI ((oF f (atF f n) 3) - 1))), some (.int (iI (dF f (atF f n) ((oF f (atF f n) 3) - 1) 0))), some (.int (iI (dF f (atF f n) ((oF f (atF f n) 3) - 1) 1))), some (.int (iI (((i : Nat) : Int) + 1))), none] [] h5 := by
                  intro zz
                  induction zz using Nat.strongRecOn with
                  | ind zz ih189 =>
                  intro i h5 rr1 hr189 hi hM5 hF5 hR5 hK hrr
                  refine k_iload (pc1 := 191) dX6_extend_189 rfl rfl ?_
                  refine k_iload_n (pc1 := 192) dX6_extend_191 rfl rfl ?_
                  refine k_icmp_gt (a := (((i : Nat) : Int) + 1)) (b := e) dX6_extend_192 rfl (tgt := 260) rfl (by omega) (by omega) (fun c192 : e < (((i : Nat) : Int) + 1) => ?_) (fun c192 : (((i : Nat) : Int) + 1) ≤ e => ?_)
                  · skip
                    have es : exs f (atF f n) k e.toNat = -1 := kls_none (fun j hj => hK j (by omega))
                    refine k_iconst (pc1 := 261) dX6_extend_260 rfl ?_
                    refine k_istore (pc1 := 263) dX6_extend_261 rfl (by decide) (k_loc (L' := [some (.ref o), some (.int (iI n)), some (.int (iI k)), some (.int (iI e)), some (.int (iI (atF f n))), some (.int (iI ((oF f (atF f n) 3) - 1))), some (.int (iI (dF f (atF f n) ((oF f (atF f n) 3) - 1) 0))), some (.int (iI (dF f (atF f n) ((oF f (atF f n) 3) - 1) 1))), some (.int (iI 1)), none]) rfl ?_)
                    have hloop263 : ∀ (zz : Nat) (i : Nat) (h6 : kAH) (rr2 : Nat → Int), zz = (e - ((i : Nat) : Int)).toNat → (((i : Nat) : Int) ≤ e) → (kMd G h6 o g r 0 (-1) (-1) (exF2 f (atF f n) k i)) → (kFw o g r h h6) → (h6 r = some (kio G 6 rr2)) → (∀ j : Nat, j < e.toNat → rr2 (j + 1) = (exS f (atF f n) k 0 ((j : Int) + 1))) → kW l G m_X6_extend 7 (kMw G o g r (Textend f n k e) h) kNo 0 0 263 [some (.ref o), some (.int (iI n)), some (.int (iI k)), some (.int (iI e)), some (.int (iI (atF f n))), some (.int (iI ((oF f (atF f n) 3) - 1))), some (.int (iI (dF f (atF f n) ((oF f (atF f n) 3) - 1) 0))), some (.int (iI (dF f (atF f n) ((oF f (atF f n) 3) - 1) 1))), some (.int (iI (((i : Nat) : Int) + 1))), none] [] h6 := by
                      intro zz
                      induction zz using Nat.strongRecOn with
                      | ind zz ih263 =>
                      intro i h6 rr2 hr263 hi hM6 hF6 hR6 hrr
                      refine k_iload (pc1 := 265) dX6_extend_263 rfl rfl ?_
                      refine k_iload_n (pc1 := 266) dX6_extend_265 rfl rfl ?_
                      refine k_icmp_gt (a := (((i : Nat) : Int) + 1)) (b := e) dX6_extend_266 rfl (tgt := 302) rfl (by omega) (by omega) (fun c266 : e < (((i : Nat) : Int) + 1) => ?_) (fun c266 : (((i : Nat) : Int) + 1) ≤ e => ?_)
                      · skip
                        have ei : i = e.toNat := by omega
                        subst ei
                        refine k_forget 8 (k_loc (L' := [some (.ref o), some (.int (iI n)), some (.int (iI k)), some (.int (iI e)), some (.int (iI (atF f n))), some (.int (iI ((oF f (atF f n) 3) - 1))), some (.int (iI (dF f (atF f n) ((oF f (atF f n) 3) - 1) 0))), some (.int (iI (dF f (atF f n) ((oF f (atF f n) 3) - 1) 1))), none, none]) rfl ?_)
                        refine k_aload_n (pc1 := 303) dX6_extend_302 rfl rfl ?_
                        refine k_iload (pc1 := 305) dX6_extend_303 rfl rfl ?_
                        refine k_iconst (pc1 := 306) dX6_extend_305 rfl ?_
                        refine k_iload (pc1 := 308) dX6_extend_306 rfl rfl ?_
                        refine k_iconst (pc1 := 309) dX6_extend_308 rfl ?_
                        refine k_iadd (a := ((oF f (atF f n) 3) - 1)) (b := 1) (pc1 := 310) dX6_extend_309 rfl ?_
                        refine k_iload_n (pc1 := 311) dX6_extend_310 rfl rfl ?_
                        refine k_iadd (a := (((oF f (atF f n) 3) - 1) + 1)) (b := e) (pc1 := 312) dX6_extend_311 rfl ?_
                        refine k_callVMn (c' := 0) (wm' := (-1)) (wd' := (-1)) (f' := (lyF (exF2 f (atF f n) k e.toNat) (atF f n) 3 ((((oF f (atF f n) 3) - 1) + 1) + e))) dX6_extend_312 rfl lk_RX6_70 o_X6_lays hM6 (w_X6_lays hl hM6 (atF f n) 3 ((((oF f (atF f n) 3) - 1) + 1) + e) (by omega) (by omega)) (as := [.int (iI (atF f n)), .int (iI 3), .int (iI ((((oF f (atF f n) 3) - 1) + 1) + e))]) rfl rfl rfl (by decide) (by decide) (k8 rfl) (fun h202 hM202 hX202 => ?_)
                        have hF202 := kFw_tr hF6 hX202.w
                        have hR202 := (hX202 r hro hrg).trans hR6
                        refine k_aload_n (pc1 := 316) dX6_extend_315 rfl rfl ?_
                        refine k_iload (pc1 := 318) dX6_extend_316 rfl rfl ?_
                        refine k_iconst (pc1 := 319) dX6_extend_318 rfl ?_
                        have hmany : oF (lyF (exF2 f (atF f n) k e.toNat) (atF f n) 3 ((((oF f (atF f n) 3) - 1) + 1) + e)) (atF f n) 3 = oF f (atF f n) 3 + e := by rw [oF_ly (by omega) (by decide) (by omega) (by decide), if_pos ⟨rfl, rfl⟩]; omega
                        refine k_callVP dX6_extend_319 rfl lk_RX6_37 o_X6_of (w_X6_of hl hM202 (atF f n) 3 (by omega) (by omega)) (as := [.int (iI (atF f n)), .int (iI 3)]) hM202.1 rfl rfl rfl rfl (by decide) (by decide) (k8 rfl) ?_
                        exact k_iret dX6_extend_322 rfl rfl (kMw_mk (c1 := 0) (v1 := (oF (lyF (exF2 f (atF f n) k e.toNat) (atF f n) 3 ((((oF f (atF f n) 3) - 1) + 1) + e)) (atF f n) 3)) (f1 := (lyF (exF2 f (atF f n) k e.toNat) (atF f n) 3 ((((oF f (atF f n) 3) - 1) + 1) + e))) (by unfold Textend; rw [kI_f (by omega), kI_t (by omega), kI_f (by omega), kI_f (by omega), kI_f (by omega), kI_f (by omega)]; exact Prod.ext rfl (Prod.ext hmany.symm rfl)) hM202 hF202)
                      · skip
                        have hm1 := kmul_r (k := k) (j := (((i : Nat) : Int) + 1)) ⟨by omega, by omega⟩ ⟨by omega, by omega⟩
                        have hm2 := kmul_m (k := k) (j := (((i : Nat) : Int) + 1)) (e := e) (by omega) (by omega)
                        refine k_aload_n (pc1 := 270) dX6_extend_269 rfl rfl ?_
                        refine k_iload (pc1 := 272) dX6_extend_270 rfl rfl ?_
                        refine k_iload (pc1 := 274) dX6_extend_272 rfl rfl ?_
                        refine k_iload (pc1 := 276) dX6_extend_274 rfl rfl ?_
                        refine k_iadd (a := ((oF f (atF f n) 3) - 1)) (b := (((i : Nat) : Int) + 1)) (pc1 := 277) dX6_extend_276 rfl ?_
                        refine k_iload (pc1 := 279) dX6_extend_277 rfl rfl ?_
                        refine k_iload_n (pc1 := 280) dX6_extend_279 rfl rfl ?_
                        refine k_iload (pc1 := 282) dX6_extend_280 rfl rfl ?_
                        refine k_imul (a := k) (b := (((i : Nat) : Int) + 1)) (pc1 := 283) dX6_extend_282 rfl ?_
                        refine k_iadd (a := (dF f (atF f n) ((oF f (atF f n) 3) - 1) 0)) (b := (k * (((i : Nat) : Int) + 1))) (pc1 := 284) dX6_extend_283 rfl ?_
                        refine k_iload (pc1 := 286) dX6_extend_284 rfl rfl ?_
                        refine k_aload_n (pc1 := 287) dX6_extend_286 rfl rfl ?_
                        refine k_get (pc1 := 290) dX6_extend_287 rfl fd_RX6_20 hM6.1 (v := .ref r) rfl ?_
                        refine k_iload (pc1 := 292) dX6_extend_290 rfl rfl ?_
                        refine k_iald (i := (((i : Nat) : Int) + 1)) (f := rr2) (pc1 := 293) dX6_extend_292 rfl hR6 (N := 6) (by omega) (by omega) (by decide) (k_val (v' := .int (iI (rr2 (((i : Nat) : Int) + 1).toNat))) rfl ?_)
                        have hrv : rr2 (((i : Nat) : Int) + 1).toNat = (exS f (atF f n) k 0 (((i : Nat) : Int) + 1)) := by rw [show (((i : Nat) : Int) + 1).toNat = i + 1 by omega]; exact hrr i (by omega)
                        refine k_val (v' := .int (iI (exS f (atF f n) k 0 (((i : Nat) : Int) + 1)))) (congrArg (fun x => Value.int (iI x)) hrv) ?_
                        refine k_callVMn (c' := 0) (wm' := (-1)) (wd' := (-1)) (f' := (dtF (exF2 f (atF f n) k i) (atF f n) (((oF f (atF f n) 3) - 1) + (((i : Nat) : Int) + 1)) ((dF f (atF f n) ((oF f (atF f n) 3) - 1) 0) + (k * (((i : Nat) : Int) + 1))) (dF f (atF f n) ((oF f (atF f n) 3) - 1) 1) (exS f (atF f n) k 0 (((i : Nat) : Int) + 1)))) dX6_extend_293 rfl lk_RX6_92 o_X6_dates hM6 (w_X6_dates hl hM6 (atF f n) (((oF f (atF f n) 3) - 1) + (((i : Nat) : Int) + 1)) ((dF f (atF f n) ((oF f (atF f n) 3) - 1) 0) + (k * (((i : Nat) : Int) + 1))) (dF f (atF f n) ((oF f (atF f n) 3) - 1) 1) (exS f (atF f n) k 0 (((i : Nat) : Int) + 1)) ⟨by omega, by omega⟩ ⟨by omega, by omega⟩) (as := [.int (iI (atF f n)), .int (iI (((oF f (atF f n) 3) - 1) + (((i : Nat) : Int) + 1))), .int (iI ((dF f (atF f n) ((oF f (atF f n) 3) - 1) 0) + (k * (((i : Nat) : Int) + 1)))), .int (iI (dF f (atF f n) ((oF f (atF f n) 3) - 1) 1)), .int (iI (exS f (atF f n) k 0 (((i : Nat) : Int) + 1)))]) rfl rfl rfl (by decide) (by decide) (k8 rfl) (fun h203 hM203 hX203 => ?_)
                        have hF203 := kFw_tr hF6 hX203.w
                        have hR203 := (hX203 r hro hrg).trans hR6
                        refine k_iinc (a := (((i : Nat) : Int) + 1)) (pc1 := 299) dX6_extend_296 rfl rfl (by decide) (k_loc (L' := [some (.ref o), some (.int (iI n)), some (.int (iI k)), some (.int (iI e)), some (.int (iI (atF f n))), some (.int (iI ((oF f (atF f n) 3) - 1))), some (.int (iI (dF f (atF f n) ((oF f (atF f n) 3) - 1) 0))), some (.int (iI (dF f (atF f n) ((oF f (atF f n) 3) - 1) 1))), some (.int (iI ((((i : Nat) : Int) + 1) + 1))), none]) rfl ?_)
                        refine k_goto dX6_extend_299 (tgt := 263) rfl ?_
                        exact ih263 _ (by omega) (i + 1) h203 rr2 rfl (by omega) hM203 hF203 hR203 hrr
                    exact hloop263 _ 0 h5 rr1 rfl (by omega) hM5 hF5 hR5 (fun j hj => hrr j (by omega))
                  · skip
                    have hm1 := kmul_r (k := k) (j := (((i : Nat) : Int) + 1)) ⟨by omega, by omega⟩ ⟨by omega, by omega⟩
                    have hm2 := kmul_m (k := k) (j := (((i : Nat) : Int) + 1)) (e := e) (by omega) (by omega)
                    refine k_aload_n (pc1 := 196) dX6_extend_195 rfl rfl ?_
                    refine k_get (pc1 := 199) dX6_extend_196 rfl fd_RX6_20 hM5.1 (v := .ref r) rfl ?_
                    refine k_iload (pc1 := 201) dX6_extend_199 rfl rfl ?_
                    refine k_aload_n (pc1 := 202) dX6_extend_201 rfl rfl ?_
                    refine k_aload_n (pc1 := 203) dX6_extend_202 rfl rfl ?_
                    refine k_iload (pc1 := 205) dX6_extend_203 rfl rfl ?_
                    refine k_callVP dX6_extend_205 rfl lk_RX6_59 o_X6_people (w_X6_people hl hM5 (atF f n) hW (by omega) (by omega)) (as := [.int (iI (atF f n))]) hM5.1 rfl rfl rfl rfl (by decide) (by decide) (k8 rfl) ?_
                    refine k_iload (pc1 := 210) dX6_extend_208 rfl rfl ?_
                    refine k_iload_n (pc1 := 211) dX6_extend_210 rfl rfl ?_
                    refine k_iload (pc1 := 213) dX6_extend_211 rfl rfl ?_
                    refine k_imul (a := k) (b := (((i : Nat) : Int) + 1)) (pc1 := 214) dX6_extend_213 rfl ?_
                    refine k_iadd (a := (dF f (atF f n) ((oF f (atF f n) 3) - 1) 0)) (b := (k * (((i : Nat) : Int) + 1))) (pc1 := 215) dX6_extend_214 rfl ?_
                    refine k_iload (pc1 := 217) dX6_extend_215 rfl rfl ?_
                    refine k_aload_n (pc1 := 218) dX6_extend_217 rfl rfl ?_
                    refine k_iload (pc1 := 220) dX6_extend_218 rfl rfl ?_
                    refine k_iconst (pc1 := 221) dX6_extend_220 rfl ?_
                    refine k_callVP dX6_extend_221 rfl lk_RX6_37 o_X6_of (w_X6_of hl hM5 (atF f n) 2 (by omega) (by omega)) (as := [.int (iI (atF f n)), .int (iI 2)]) hM5.1 rfl rfl rfl rfl (by decide) (by decide) (k8 rfl) ?_
                    refine k_callVP dX6_extend_224 rfl lk_RX6_89 o_X6_smallest (w_X6_smallest hl hM5 (ppF f (atF f n)) ((dF f (atF f n) ((oF f (atF f n) 3) - 1) 0) + (k * (((i : Nat) : Int) + 1))) (dF f (atF f n) ((oF f (atF f n) 3) - 1) 1) (oF f (atF f n) 2) (by first | omega | exact kmk_lt _ _ | assumption) hW hwm hwd ⟨by omega, by omega⟩ ⟨by omega, by omega⟩ ⟨by omega, by omega⟩ ) (as := [.int (iI (((ppF f (atF f n)) : Nat) : Int)), .int (iI ((dF f (atF f n) ((oF f (atF f n) 3) - 1) 0) + (k * (((i : Nat) : Int) + 1)))), .int (iI (dF f (atF f n) ((oF f (atF f n) 3) - 1) 1)), .int (iI (oF f (atF f n) 2))]) hM5.1 rfl rfl rfl rfl (by decide) (by decide) (k8 rfl) ?_
                    refine k_iastR (pc1 := 228) (i := (((i : Nat) : Int) + 1)) (x := (smlF f (-1) (-1) (ppF f (atF f n)) ((dF f (atF f n) ((oF f (atF f n) 3) - 1) 0) + (k * (((i : Nat) : Int) + 1))) (dF f (atF f n) ((oF f (atF f n) 3) - 1) 1) (oF f (atF f n) 2))) dX6_extend_227 rfl hM5 hR5 (by omega) (by omega) (fun h204 hM204 hR204 hX204 => ?_)
                    have hF204 := kFw_tr hF5 hX204
                    refine k_aload_n (pc1 := 229) dX6_extend_228 rfl rfl ?_
                    refine k_get (pc1 := 232) dX6_extend_229 rfl fd_RX6_20 hM204.1 (v := .ref r) rfl ?_
                    refine k_iload (pc1 := 234) dX6_extend_232 rfl rfl ?_
                    refine k_iald (i := (((i : Nat) : Int) + 1)) (f := (kiu rr1 (((i : Nat) : Int) + 1).toNat (smlF f (-1) (-1) (ppF f (atF f n)) ((dF f (atF f n) ((oF f (atF f n) 3) - 1) 0) + (k * (((i : Nat) : Int) + 1))) (dF f (atF f n) ((oF f (atF f n) 3) - 1) 1) (oF f (atF f n) 2)))) (pc1 := 235) dX6_extend_234 rfl hR204 (N := 6) (by omega) (by omega) (by decide) (k_val (v' := .int (iI ((kiu rr1 (((i : Nat) : Int) + 1).toNat (smlF f (-1) (-1) (ppF f (atF f n)) ((dF f (atF f n) ((oF f (atF f n) 3) - 1) 0) + (k * (((i : Nat) : Int) + 1))) (dF f (atF f n) ((oF f (atF f n) 3) - 1) 1) (oF f (atF f n) 2))) (((i : Nat) : Int) + 1).toNat))) rfl ?_)
                    refine k_val (v' := .int (iI (exS f (atF f n) k 0 (((i : Nat) : Int) + 1)))) (congrArg (fun x => Value.int (iI x)) ki_eq) ?_
                    have hsr : -1 ≤ (exS f (atF f n) k 0 (((i : Nat) : Int) + 1)) ∧ (exS f (atF f n) k 0 (((i : Nat) : Int) + 1)) < 4 := smlF_r f (-1) (-1) (ppF f (atF f n)) _ _ _
                    refine k_if_ge (a := (exS f (atF f n) k 0 (((i : Nat) : Int) + 1))) dX6_extend_235 rfl (tgt := 254) rfl (by omega) (fun c235 : 0 ≤ (exS f (atF f n) k 0 (((i : Nat) : Int) + 1)) => ?_) (fun c235 : (exS f (atF f n) k 0 (((i : Nat) : Int) + 1)) < 0 => ?_)
                    · skip
                      refine k_iinc (a := (((i : Nat) : Int) + 1)) (pc1 := 257) dX6_extend_254 rfl rfl (by decide) (k_loc (L' := [some (.ref o), some (.int (iI n)), some (.int (iI k)), some (.int (iI e)), some (.int (iI (atF f n))), some (.int (iI ((oF f (atF f n) 3) - 1))), some (.int (iI (dF f (atF f n) ((oF f (atF f n) 3) - 1) 0))), some (.int (iI (dF f (atF f n) ((oF f (atF f n) 3) - 1) 1))), some (.int (iI ((((i : Nat) : Int) + 1) + 1))), none]) rfl ?_)
                      refine k_goto dX6_extend_257 (tgt := 189) rfl ?_
                      exact ih189 _ (by omega) (i + 1) h204 (kiu rr1 (((i : Nat) : Int) + 1).toNat (smlF f (-1) (-1) (ppF f (atF f n)) ((dF f (atF f n) ((oF f (atF f n) 3) - 1) 0) + (k * (((i : Nat) : Int) + 1))) (dF f (atF f n) ((oF f (atF f n) 3) - 1) 1) (oF f (atF f n) 2))) rfl (by omega) hM204 hF204 hR204 (fun j hj => if e : j = i then (fun z => by subst e; omega) else hK j (by omega)) (fun j hj => if e : j = i then (by subst e; exact (ki_at (by omega))) else (ki_off (by omega)).trans (hrr j (by omega)))
                    · skip
                      refine k_aload_n (pc1 := 239) dX6_extend_238 rfl rfl ?_
                      refine k_iconst (pc1 := 240) dX6_extend_239 rfl ?_
                      refine k_iload (pc1 := 242) dX6_extend_240 rfl rfl ?_
                      refine k_iload (pc1 := 244) dX6_extend_242 rfl rfl ?_
                      refine k_iadd (a := ((oF f (atF f n) 3) - 1)) (b := (((i : Nat) : Int) + 1)) (pc1 := 245) dX6_extend_244 rfl ?_
                      refine k_iconst (pc1 := 246) dX6_extend_245 rfl ?_
                      refine k_callVM (c' := 4) (wm' := (-1)) (wd' := (-1)) (f' := (rfF f 2 (((oF f (atF f n) 3) - 1) + (((i : Nat) : Int) + 1)))) (v := .int (iI 1)) dX6_extend_246 rfl lk_RX6_86 o_X6_refuses hM204 (w_X6_refuses hl hM204 2 (((oF f (atF f n) 3) - 1) + (((i : Nat) : Int) + 1)) (by decide)) (as := [.int (iI 2), .int (iI (((oF f (atF f n) 3) - 1) + (((i : Nat) : Int) + 1))), .int (iI 4)]) rfl rfl rfl (by decide) (by decide) (k8 rfl) (fun h205 hM205 hX205 => ?_)
                      have hF205 := kFw_tr hF204 hX205.w
                      have hR205 := (hX205 r hro hrg).trans hR204
                      refine k_if_eq (a := 1) dX6_extend_249 rfl (tgt := 254) rfl (by decide) (fun c => absurd c (by decide)) (fun _ => ?_)
                      refine k_iconst (pc1 := 253) dX6_extend_252 rfl ?_
                      exact k_iret dX6_extend_253 rfl rfl (kMw_mk (c1 := 4) (v1 := 0) (f1 := (rfF f 2 (((oF f (atF f n) 3) - 1) + (((i : Nat) : Int) + 1)))) (by have es : exs f (atF f n) k e.toNat = ((i : Nat) : Int) := kls_at (n := e.toNat) (by omega) c235 hK; unfold Textend; rw [kI_f (by omega), kI_t (by omega), kI_f (by omega), kI_f (by omega), kI_f (by omega), kI_t (by omega), es]) hM205 hF205)
                exact hloop189 _ 0 h201 rr rfl (by omega) hM201 hF201 hR201 (fun j hj => absurd hj (by omega)) (fun j hj => absurd hj (by omega))
              · skip
                have hm1 := kmul_r (k := k) (j := (((i : Nat) : Int) + 1)) ⟨by omega, by omega⟩ ⟨by omega, by omega⟩
                have hm2 := kmul_m (k := k) (j := (((i : Nat) : Int) + 1)) (e := e) (by omega) (by omega)
                refine k_aload_n (pc1 := 135) dX6_extend_134 rfl rfl ?_
                refine k_aload_n (pc1 := 136) dX6_extend_135 rfl rfl ?_
                refine k_iload (pc1 := 138) dX6_extend_136 rfl rfl ?_
                refine k_callVP dX6_extend_138 rfl lk_RX6_59 o_X6_people (w_X6_people hl hM201 (atF f n) hW (by omega) (by omega)) (as := [.int (iI (atF f n))]) hM201.1 rfl rfl rfl rfl (by decide) (by decide) (k8 rfl) ?_
                refine k_iload (pc1 := 143) dX6_extend_141 rfl rfl ?_
                refine k_iload_n (pc1 := 144) dX6_extend_143 rfl rfl ?_
                refine k_iload (pc1 := 146) dX6_extend_144 rfl rfl ?_
                refine k_imul (a := k) (b := (((i : Nat) : Int) + 1)) (pc1 := 147) dX6_extend_146 rfl ?_
                refine k_iadd (a := (dF f (atF f n) ((oF f (atF f n) 3) - 1) 0)) (b := (k * (((i : Nat) : Int) + 1))) (pc1 := 148) dX6_extend_147 rfl ?_
                refine k_iload (pc1 := 150) dX6_extend_148 rfl rfl ?_
                refine k_aload_n (pc1 := 151) dX6_extend_150 rfl rfl ?_
                refine k_iload (pc1 := 153) dX6_extend_151 rfl rfl ?_
                refine k_iconst (pc1 := 154) dX6_extend_153 rfl ?_
                refine k_callVP dX6_extend_154 rfl lk_RX6_37 o_X6_of (w_X6_of hl hM201 (atF f n) 2 (by omega) (by omega)) (as := [.int (iI (atF f n)), .int (iI 2)]) hM201.1 rfl rfl rfl rfl (by decide) (by decide) (k8 rfl) ?_
                refine k_callVP dX6_extend_157 rfl lk_RX6_83 o_X6_busy (w_X6_busy hl hM201 (ppF f (atF f n)) ((dF f (atF f n) ((oF f (atF f n) 3) - 1) 0) + (k * (((i : Nat) : Int) + 1))) (dF f (atF f n) ((oF f (atF f n) 3) - 1) 1) (oF f (atF f n) 2) (by first | omega | exact kmk_lt _ _ | assumption) hW hwm hwd ⟨by omega, by omega⟩ ⟨by omega, by omega⟩ ⟨by omega, by omega⟩ ) (as := [.int (iI (((ppF f (atF f n)) : Nat) : Int)), .int (iI ((dF f (atF f n) ((oF f (atF f n) 3) - 1) 0) + (k * (((i : Nat) : Int) + 1)))), .int (iI (dF f (atF f n) ((oF f (atF f n) 3) - 1) 1)), .int (iI (oF f (atF f n) 2))]) hM201.1 rfl rfl rfl rfl (by decide) (by decide) (k8 rfl) ?_
                refine k_istore (pc1 := 162) dX6_extend_160 rfl (by decide) (k_loc (L' := [some (.ref o), some (.int (iI n)), some (.int (iI k)), some (.int (iI e)), some (.int (iI (atF f n))), some (.int (iI ((oF f (atF f n) 3) - 1))), some (.int (iI (dF f (atF f n) ((oF f (atF f n) 3) - 1) 0))), some (.int (iI (dF f (atF f n) ((oF f (atF f n) 3) - 1) 1))), some (.int (iI (((i : Nat) : Int) + 1))), some (.int (iI (bsyF f (-1) (-1) (ppF f (atF f n)) ((dF f (atF f n) ((oF f (atF f n) 3) - 1) 0) + (k * (((i : Nat) : Int) + 1))) (dF f (atF f n) ((oF f (atF f n) 3) - 1) 1) (oF f (atF f n) 2))))]) rfl ?_)
                have hbr : -1 ≤ (exB f (atF f n) k (((i : Nat) : Int) + 1)) ∧ (exB f (atF f n) k (((i : Nat) : Int) + 1)) < 6 := bsyF_r _ _ _ _ _ _ _
                refine k_iload (pc1 := 164) dX6_extend_162 rfl rfl ?_
                refine k_val (v' := .int (iI (exB f (atF f n) k (((i : Nat) : Int) + 1)))) rfl ?_
                refine k_if_lt (a := (exB f (atF f n) k (((i : Nat) : Int) + 1))) dX6_extend_164 rfl (tgt := 180) rfl (by omega) (fun c164 : (exB f (atF f n) k (((i : Nat) : Int) + 1)) < 0 => ?_) (fun c164 : ¬ (exB f (atF f n) k (((i : Nat) : Int) + 1)) < 0 => ?_)
                · skip
                  refine k_iinc (a := (((i : Nat) : Int) + 1)) (pc1 := 183) dX6_extend_180 rfl rfl (by decide) (k_loc (L' := [some (.ref o), some (.int (iI n)), some (.int (iI k)), some (.int (iI e)), some (.int (iI (atF f n))), some (.int (iI ((oF f (atF f n) 3) - 1))), some (.int (iI (dF f (atF f n) ((oF f (atF f n) 3) - 1) 0))), some (.int (iI (dF f (atF f n) ((oF f (atF f n) 3) - 1) 1))), some (.int (iI ((((i : Nat) : Int) + 1) + 1))), some (.int (iI (bsyF f (-1) (-1) (ppF f (atF f n)) ((dF f (atF f n) ((oF f (atF f n) 3) - 1) 0) + (k * (((i : Nat) : Int) + 1))) (dF f (atF f n) ((oF f (atF f n) 3) - 1) 1) (oF f (atF f n) 2))))]) rfl ?_)
                  refine k_goto dX6_extend_183 (tgt := 128) rfl ?_
                  refine k_forget 9 (k_loc (L' := [some (.ref o), some (.int (iI n)), some (.int (iI k)), some (.int (iI e)), some (.int (iI (atF f n))), some (.int (iI ((oF f (atF f n) 3) - 1))), some (.int (iI (dF f (atF f n) ((oF f (atF f n) 3) - 1) 0))), some (.int (iI (dF f (atF f n) ((oF f (atF f n) 3) - 1) 1))), some (.int (iI ((((i : Nat) : Int) + 1) + 1))), none]) rfl ?_)
                  exact ih128 _ (by omega) (i + 1) rfl (by omega) (fun j hj => if e : j = i then (fun z => by subst e; omega) else hJ j (by omega))
                · skip
                  refine k_aload_n (pc1 := 168) dX6_extend_167 rfl rfl ?_
                  refine k_iconst (pc1 := 169) dX6_extend_168 rfl ?_
                  refine k_iload (pc1 := 171) dX6_extend_169 rfl rfl ?_
                  refine k_iconst (pc1 := 172) dX6_extend_171 rfl ?_
                  refine k_callVM (c' := 4) (wm' := (-1)) (wd' := (-1)) (f' := (rfF f 1 (bsyF f (-1) (-1) (ppF f (atF f n)) ((dF f (atF f n) ((oF f (atF f n) 3) - 1) 0) + (k * (((i : Nat) : Int) + 1))) (dF f (atF f n) ((oF f (atF f n) 3) - 1) 1) (oF f (atF f n) 2)))) (v := .int (iI 1)) dX6_extend_172 rfl lk_RX6_86 o_X6_refuses hM201 (w_X6_refuses hl hM201 1 (bsyF f (-1) (-1) (ppF f (atF f n)) ((dF f (atF f n) ((oF f (atF f n) 3) - 1) 0) + (k * (((i : Nat) : Int) + 1))) (dF f (atF f n) ((oF f (atF f n) 3) - 1) 1) (oF f (atF f n) 2)) (by decide)) (as := [.int (iI 1), .int (iI (bsyF f (-1) (-1) (ppF f (atF f n)) ((dF f (atF f n) ((oF f (atF f n) 3) - 1) 0) + (k * (((i : Nat) : Int) + 1))) (dF f (atF f n) ((oF f (atF f n) 3) - 1) 1) (oF f (atF f n) 2))), .int (iI 4)]) rfl rfl rfl (by decide) (by decide) (k8 rfl) (fun h206 hM206 hX206 => ?_)
                  have hF206 := kFw_tr hF201 hX206.w
                  have hR206 := (hX206 r hro hrg).trans hR201
                  refine k_if_eq (a := 1) dX6_extend_175 rfl (tgt := 180) rfl (by decide) (fun c => absurd c (by decide)) (fun _ => ?_)
                  refine k_iconst (pc1 := 179) dX6_extend_178 rfl ?_
                  exact k_iret dX6_extend_179 rfl rfl (kMw_mk (c1 := 4) (v1 := 0) (f1 := (rfF f 1 (bsyF f (-1) (-1) (ppF f (atF f n)) ((dF f (atF f n) ((oF f (atF f n) 3) - 1) 0) + (k * (((i : Nat) : Int) + 1))) (dF f (atF f n) ((oF f (atF f n) 3) - 1) 1) (oF f (atF f n) 2)))) (by have eb : exb f (atF f n) k e.toNat = ((i : Nat) : Int) := kls_at (n := e.toNat) (by omega) (Int.not_lt.mp c164) hJ; unfold Textend; rw [kI_f (by omega), kI_t (by omega), kI_f (by omega), kI_f (by omega), kI_t (by omega), eb]; rfl) hM206 hF206)
            exact hloop128 _ 0 rfl (by omega) (fun j hj => absurd hj (by omega))
          · skip
            refine k_iconst (pc1 := 113) dX6_extend_112 rfl ?_
            refine k_goto dX6_extend_113 (tgt := 117) rfl ?_
            refine k_callVM (c' := 3) (wm' := (-1)) (wd' := (-1)) (f' := f) (v := .int (iI 1)) dX6_extend_117 rfl lk_RX6_34 o_X6_fails hM200 (w_X6_failsT hl hM200 (by decide)) (as := [.int (iI 3)]) rfl rfl rfl (by decide) (by decide) (k8 rfl) (fun h207 hM207 hX207 => ?_)
            have hF207 := kFw_tr hF200 hX207.w
            have hR207 := (hX207 r hro hrg).trans hR200
            refine k_if_eq (a := 1) dX6_extend_120 rfl (tgt := 125) rfl (by decide) (fun c => absurd c (by decide)) (fun _ => ?_)
            refine k_iconst (pc1 := 124) dX6_extend_123 rfl ?_
            exact k_iret dX6_extend_124 rfl rfl (kMw_mk (c1 := 3) (v1 := 0) (f1 := f) (by unfold Textend; rw [kI_f (by omega), kI_t (by omega)]; first | exact kI_t (by omega) | exact (kI_f (by omega)).trans (kI_t (by omega))) hM207 hF207)
        · skip
          refine k_iconst (pc1 := 95) dX6_extend_94 rfl ?_
          refine k_goto dX6_extend_95 (tgt := 117) rfl ?_
          refine k_callVM (c' := 2) (wm' := (-1)) (wd' := (-1)) (f' := f) (v := .int (iI 1)) dX6_extend_117 rfl lk_RX6_34 o_X6_fails hM200 (w_X6_failsT hl hM200 (by decide)) (as := [.int (iI 2)]) rfl rfl rfl (by decide) (by decide) (k8 rfl) (fun h208 hM208 hX208 => ?_)
          have hF208 := kFw_tr hF200 hX208.w
          have hR208 := (hX208 r hro hrg).trans hR200
          refine k_if_eq (a := 1) dX6_extend_120 rfl (tgt := 125) rfl (by decide) (fun c => absurd c (by decide)) (fun _ => ?_)
          refine k_iconst (pc1 := 124) dX6_extend_123 rfl ?_
          exact k_iret dX6_extend_124 rfl rfl (kMw_mk (c1 := 2) (v1 := 0) (f1 := f) (by unfold Textend; rw [kI_f (by omega), kI_t (by omega)]; first | exact kI_t (by omega) | exact (kI_f (by omega)).trans (kI_t (by omega))) hM208 hF208)
  · skip
    refine k_iconst (pc1 := 14) dX6_extend_13 rfl ?_
    refine k_goto dX6_extend_14 (tgt := 41) rfl ?_
    refine k_callVM (c' := 1) (wm' := (-1)) (wd' := (-1)) (f' := f) (v := .int (iI 1)) dX6_extend_41 rfl lk_RX6_34 o_X6_fails hM (w_X6_failsT hl hM (by decide)) (as := [.int (iI 1)]) rfl rfl rfl (by decide) (by decide) (k8 rfl) (fun h209 hM209 hX209 => ?_)
    have hF209 := kFw_tr (kFm_rf o g r h).w hX209.w
    have hR209 := (hX209 r hro hrg).trans hR
    refine k_if_eq (a := 1) dX6_extend_44 rfl (tgt := 49) rfl (by decide) (fun c => absurd c (by decide)) (fun _ => ?_)
    refine k_iconst (pc1 := 48) dX6_extend_47 rfl ?_
    exact k_iret dX6_extend_48 rfl rfl (kMw_mk (c1 := 1) (v1 := 0) (f1 := f) (by unfold Textend; first | exact kI_t (by omega) | exact (kI_f (by omega)).trans (kI_f (by omega))) hM209 hF209)
