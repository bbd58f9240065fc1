/-! ===== the class: answer, walked ===== -/
theorem w_X5_answer {l : Launch} {G : kG} {h : kAH} (hl : l.stackTraces = false) {pl : Nat} {γ : kGh} {A : kAb} {f : Nat → Int} (hC : kRp G h pl γ A f) {n p a : Int} (rn : -2147483648 ≤ n ∧ n < 2147483648) (rp : -2147483648 ≤ p ∧ p < 2147483648) (ha : 0 ≤ a ∧ a < 65536) : kC l G m_X5_answer 6 1 6 [.ref pl, .int (iI n), .int (iI p), .int (iI a)] h (kOy G pl γ h (Tanswer f n p a)) (kOn G pl γ h (Tanswer f n p a) ["", "java/util/NoSuchElementException", "java/lang/IllegalArgumentException", "java/lang/IllegalStateException", "java/lang/UnsupportedOperationException"]) := by
  have h8 := kWf_cnt hC.2.2
  refine kC_of hl rfl rfl (Nat.le_of_ble_eq_true rfl) (L := [some (.ref pl), some (.int (iI n)), some (.int (iI p)), some (.int (iI a)), none, none]) rfl ?_
  refine k_aload_n (pc1 := 1) dX5_answer_0 rfl rfl ?_
  refine k_iload_n (pc1 := 2) dX5_answer_1 rfl rfl ?_
  by_cases hn2 : atF f n < 0
  · skip
    refine k_callV dX5_answer_2 rfl lk_RX5_97 o_X5_meetingWith (as := [.int (iI n)]) rfl rfl (rp_P hC) rfl rfl (w_mwN hl hC (by omega) hn2) (by decide) (by decide) (by decide) (by decide) (k8 rfl) (fun v h9 z => z.elim) (fun E h9 z => kx_out rfl ?_)
    obtain ⟨hv1, hv2⟩ := z
    subst hv1
    rw [hv2]
    exact (kOn_mk (c := 1) (v := 32) (f' := f) (by unfold Tanswer; first | exact kI_t (by omega) | (rw [kI_f (by omega)]; first | exact kI_f (by omega) | (rw [kI_t (by omega)]; first | exact kI_t (by omega) | (rw [kI_f (by omega)]; first | exact kI_t (by omega) | (rw [kI_f (by omega)]; first | exact kI_t (by omega) | exact kI_f (by omega)))))) (by decide) rfl (kSt_rf hC))
  · skip
    refine k_callVP dX5_answer_2 rfl lk_RX5_97 o_X5_meetingWith (w_mwY hl hC (by omega) hn2) (as := [.int (iI n)]) (rp_P hC) rfl rfl rfl rfl (by decide) (by decide) (k8 rfl) ?_
    have h8 := kWf_cnt hC.2.2
    have hat := atF_r (f := f) (n := n) h8.1
    have hmm := kWf_m hC.2.2 (m := (atF f n)) (by omega) (by omega)
    have hmx := rp_Mx hC (m := (atF f n)) (by omega) (by omega)
    obtain ⟨arE, cE, hMd⟩ := rp_Md hC (m := (atF f n)) (by omega) (by omega)
    obtain ⟨mcE, hMe⟩ := hMd.1
    refine k_astore (pc1 := 7) dX5_answer_5 rfl (by decide) (k_loc (L' := [some (.ref pl), some (.int (iI n)), some (.int (iI p)), some (.int (iI a)), some (.ref (gMt γ (oF f (atF f n) 0))), none]) rfl ?_)
    refine k_iload_n (pc1 := 8) dX5_answer_7 rfl rfl ?_
    by_cases hq8 : 0 ≤ p ∧ p ≤ 5
    · skip
      refine k_callS dX5_answer_8 rfl rfl lk_RX5_58 o_X5_requirePerson (as := [.int (iI p)]) rfl rfl (w_rpY hl (by omega) hq8) (by decide) (by decide) (by decide) (by decide) (k8 rfl) (fun v h9 hv => ?_) (fun E h9 z => z.elim)
      obtain ⟨hv1, hv2⟩ := hv
      subst hv1
      rw [hv2]
      refine k_st (st' := []) rfl ?_
      refine k_iload_n (pc1 := 12) dX5_answer_11 rfl rfl ?_
      refine k_bipush 121 (pc1 := 14) dX5_answer_12 rfl (by decide) ?_
      refine k_icmp_eq (a := a) (b := 121) dX5_answer_14 rfl (tgt := 39) rfl (by omega) (by decide) (fun c14 : a = 121 => ?_) (fun c14 : a ≠ 121 => ?_)
      · skip
        have hpp := kWf_p hC.2.2 (m := atF f n) (p := p) (by omega) (by omega) (by omega) (by omega)
        have hpt : (aAk A (oF f (atF f n) 0)).testBit p.toNat = true ↔ oF f (atF f n) (4 + p) ≠ 45 := by
          have z := (hmx.2.2.2 p.toNat (by omega)).1
          rw [Int.toNat_of_nonneg (by omega)] at z
          exact z
        have hx1 := hmx.1
        refine k_aload (pc1 := 41) dX5_answer_39 rfl rfl ?_
        refine k_get (pc1 := 44) dX5_answer_41 rfl fd_RX5_147 (rp_M hC (m := (atF f n)) (by omega) (by omega)) (v := .int (iI (((aAk A (oF f (atF f n) 0)) : Nat) : Int))) rfl ?_
        refine k_iload_n (pc1 := 45) dX5_answer_44 rfl rfl ?_
        refine k_callSP dX5_answer_45 rfl lk_RX5_150 o_X5_holdsPerson (w_X5_holdsPerson hl (aAk A (oF f (atF f n) 0)) p (by first | omega | exact kmk_lt _ 6 | exact exM_lt ⟨by omega, by omega⟩ (by first | omega | exact kmk_lt _ 6) | assumption) ⟨by omega, by omega⟩) (as := [.int (iI (((aAk A (oF f (atF f n) 0)) : Nat) : Int)), .int (iI p)]) rfl rfl rfl (by decide) (by decide) (k8 rfl) ?_
        refine k_if_ne (a := kB (Nat.testBit (aAk A (oF f (atF f n) 0)) p.toNat = true)) dX5_answer_48 rfl (tgt := 61) rfl (kB_r _) (fun c48 : kB (Nat.testBit (aAk A (oF f (atF f n) 0)) p.toNat = true) ≠ 0 => ?_) (fun c48 : kB (Nat.testBit (aAk A (oF f (atF f n) 0)) p.toNat = true) = 0 => ?_)
        · replace c48 : (Nat.testBit (aAk A (oF f (atF f n) 0)) p.toNat = true) := kB_nz.mp c48
          have h45 := hpt.mp c48
          refine k_aload (pc1 := 63) dX5_answer_61 rfl rfl ?_
          refine k_iload_n (pc1 := 64) dX5_answer_63 rfl rfl ?_
          refine k_callVP dX5_answer_64 rfl lk_RX5_156 o_X2_answerFrom (w_X2_answerFrom hl (rp_M hC (m := (atF f n)) (by omega) (by omega)) ⟨by omega, by omega⟩ hmx.1 hmx.2.1 hmx.2.2.1 p ⟨by omega, by omega⟩) (as := [.int (iI p)]) (rp_M hC (m := (atF f n)) (by omega) (by omega)) rfl rfl rfl rfl (by decide) (by decide) (k8 rfl) ?_
          refine k_val (v' := .int (iI (kI (p = oF f (atF f n) 1) 104 (oF f (atF f n) (4 + p))))) (congrArg (fun z => Value.int (iI z)) (rp_af hC (by omega) (by omega) ⟨by omega, by omega⟩)) ?_
          have hpp := kWf_p hC.2.2 (m := (atF f n)) (p := p) (by omega) (by omega) (by omega) (by omega)
          have haf : 0 ≤ (kI (p = oF f (atF f n) 1) 104 (oF f (atF f n) (4 + p))) ∧ (kI (p = oF f (atF f n) 1) 104 (oF f (atF f n) (4 + p))) < 65536 := by
            by_cases z : p = oF f (atF f n) 1
            · rw [kI_t z]; decide
            · rw [kI_f z]; omega
          refine k_istore (pc1 := 69) dX5_answer_67 rfl (by decide) (k_loc (L' := [some (.ref pl), some (.int (iI n)), some (.int (iI p)), some (.int (iI a)), some (.ref (gMt γ (oF f (atF f n) 0))), some (.int (iI (kI (p = oF f (atF f n) 1) 104 (oF f (atF f n) (4 + p)))))]) rfl ?_)
          have hbv9 : kI (p = oF f (atF f n) 1) 104 (oF f (atF f n) (4 + p)) = oF f (atF f n) (4 + p) := kI_f (by omega)
          refine k_iload (pc1 := 71) dX5_answer_69 rfl rfl ?_
          refine k_bipush 110 (pc1 := 73) dX5_answer_71 rfl (by decide) ?_
          refine k_icmp_ne (a := (kI (p = oF f (atF f n) 1) 104 (oF f (atF f n) (4 + p)))) (b := 110) dX5_answer_73 rfl (tgt := 95) rfl (by omega) (by decide) (fun c73 : (kI (p = oF f (atF f n) 1) 104 (oF f (atF f n) (4 + p))) ≠ 110 => ?_) (fun c73 : (kI (p = oF f (atF f n) 1) 104 (oF f (atF f n) (4 + p))) = 110 => ?_)
          · skip
            refine k_aload (pc1 := 97) dX5_answer_95 rfl rfl ?_
            refine k_iload_n (pc1 := 98) dX5_answer_97 rfl rfl ?_
            refine k_iload_n (pc1 := 99) dX5_answer_98 rfl rfl ?_
            have hpn : ((p.toNat : Nat) : Int) = p := Int.toNat_of_nonneg (by omega)
            have hW9 : kWf (lyF f (atF f n) (4 + p) a) := by
              have z := wf_answer hC.2.2 n p a
              rw [Tanswer, kI_f (by omega), kI_t (by omega), kI_f (by omega), kI_f (by omega), kI_f (by omega)] at z
              exact z
            have hN := w_note hl hC (m := atF f n) (by omega) (by omega) (p := p.toNat) (by omega) (a := a) (by rw [hpn]; omega) (by omega) (by omega) (by rw [hpn]; exact hW9)
            rw [hpn] at hN
            refine k_callV dX5_answer_99 rfl lk_RX5_168 o_X2_note (as := [.int (iI p), .int (iI a)]) rfl rfl (rp_M hC (m := (atF f n)) (by omega) (by omega)) rfl rfl hN (by decide) (by decide) (Nat.zero_le _) (Nat.zero_le _) (k8 rfl) (fun v h1 hv => ?_) (fun E h9 z => z.elim)
            obtain ⟨hv1, ⟨A1, hC1⟩, hfr1⟩ := hv
            subst hv1
            refine k_st (st' := []) rfl ?_
            refine k_iload (pc1 := 104) dX5_answer_102 rfl rfl ?_
            have htm : gOw γ (gMt γ (oF f (atF f n) 0)) = (4, (oF f (atF f n) 0).toNat) := (hC.1.2.2.2.2.2.2.1 _ (hC.2.1.2.2.2.1 (atF f n) (by omega) (by omega)).1).2.1.2
            have hbv : kI (p = oF f (atF f n) 1) 104 (oF f (atF f n) (4 + p)) = oF f (atF f n) (4 + p) := kI_f (by omega)
            exact k_iret dX5_answer_104 rfl (kn_c (by omega) (by omega)) (kOy_mk (v := (kI (p = oF f (atF f n) 1) 104 (oF f (atF f n) (4 + p)))) (f' := lyF f (atF f n) (4 + p) a) (by rw [hbv]; unfold Tanswer; first | exact kI_t (by omega) | (rw [kI_f (by omega)]; first | exact kI_f (by omega) | (rw [kI_t (by omega)]; first | exact kI_t (by omega) | (rw [kI_f (by omega)]; first | exact kI_t (by omega) | (rw [kI_f (by omega)]; first | exact kI_t (by omega) | exact kI_f (by omega)))))) ⟨γ, A1, hC1, fun b e g1 g2 => ⟨(hfr1 b (fun c => by rw [c, htm] at g2; cases g2)).trans g1, g2⟩⟩)
          · skip
            refine k_iload_n (pc1 := 77) dX5_answer_76 rfl rfl ?_
            refine k_bipush 110 (pc1 := 79) dX5_answer_77 rfl (by decide) ?_
            refine k_icmp_eq (a := a) (b := 110) dX5_answer_79 rfl (tgt := 95) rfl (by omega) (by decide) (fun c79 : a = 110 => ?_) (fun c79 : a ≠ 110 => ?_)
            · skip
              refine k_aload (pc1 := 97) dX5_answer_95 rfl rfl ?_
              refine k_iload_n (pc1 := 98) dX5_answer_97 rfl rfl ?_
              refine k_iload_n (pc1 := 99) dX5_answer_98 rfl rfl ?_
              have hpn : ((p.toNat : Nat) : Int) = p := Int.toNat_of_nonneg (by omega)
              have hW9 : kWf (lyF f (atF f n) (4 + p) a) := by
                have z := wf_answer hC.2.2 n p a
                rw [Tanswer, kI_f (by omega), kI_t (by omega), kI_f (by omega), kI_f (by omega), kI_f (by omega)] at z
                exact z
              have hN := w_note hl hC (m := atF f n) (by omega) (by omega) (p := p.toNat) (by omega) (a := a) (by rw [hpn]; omega) (by omega) (by omega) (by rw [hpn]; exact hW9)
              rw [hpn] at hN
              refine k_callV dX5_answer_99 rfl lk_RX5_168 o_X2_note (as := [.int (iI p), .int (iI a)]) rfl rfl (rp_M hC (m := (atF f n)) (by omega) (by omega)) rfl rfl hN (by decide) (by decide) (Nat.zero_le _) (Nat.zero_le _) (k8 rfl) (fun v h1 hv => ?_) (fun E h9 z => z.elim)
              obtain ⟨hv1, ⟨A1, hC1⟩, hfr1⟩ := hv
              subst hv1
              refine k_st (st' := []) rfl ?_
              refine k_iload (pc1 := 104) dX5_answer_102 rfl rfl ?_
              have htm : gOw γ (gMt γ (oF f (atF f n) 0)) = (4, (oF f (atF f n) 0).toNat) := (hC.1.2.2.2.2.2.2.1 _ (hC.2.1.2.2.2.1 (atF f n) (by omega) (by omega)).1).2.1.2
              have hbv : kI (p = oF f (atF f n) 1) 104 (oF f (atF f n) (4 + p)) = oF f (atF f n) (4 + p) := kI_f (by omega)
              exact k_iret dX5_answer_104 rfl (kn_c (by omega) (by omega)) (kOy_mk (v := (kI (p = oF f (atF f n) 1) 104 (oF f (atF f n) (4 + p)))) (f' := lyF f (atF f n) (4 + p) a) (by rw [hbv]; unfold Tanswer; first | exact kI_t (by omega) | (rw [kI_f (by omega)]; first | exact kI_f (by omega) | (rw [kI_t (by omega)]; first | exact kI_t (by omega) | (rw [kI_f (by omega)]; first | exact kI_t (by omega) | (rw [kI_f (by omega)]; first | exact kI_t (by omega) | exact kI_f (by omega)))))) ⟨γ, A1, hC1, fun b e g1 g2 => ⟨(hfr1 b (fun c => by rw [c, htm] at g2; cases g2)).trans g1, g2⟩⟩)
            · skip
              refine k_aload_n (pc1 := 83) dX5_answer_82 rfl rfl ?_
              refine k_aload (pc1 := 85) dX5_answer_83 rfl rfl ?_
              by_cases hk3 : 0 ≤ ko3 f (atF f n)
              · skip
                refine k_callV dX5_answer_85 rfl lk_RX5_160 o_X5_requireSeatsLeft (as := [.ref (gMt γ (oF f (atF f n) 0))]) rfl rfl (rp_P hC) rfl rfl (w_slN hl hC (m := atF f n) (by omega) (by omega) hk3) (by decide) (by decide) (by decide) (by decide) (k8 rfl) (fun v h9 z => z.elim) (fun E h9 z => kx_out rfl ?_)
                obtain ⟨hv1, A1, hC1, hfr1⟩ := z
                subst hv1
                exact kOn_mk (c := 4) (v := 32) (f' := rfF f 3 (ko3 f (atF f n))) (by unfold Tanswer; first | exact kI_t (by omega) | (rw [kI_f (by omega)]; first | exact kI_f (by omega) | (rw [kI_t (by omega)]; first | exact kI_t (by omega) | (rw [kI_f (by omega)]; first | exact kI_t (by omega) | (rw [kI_f (by omega)]; first | exact kI_t (by omega) | exact kI_f (by omega)))))) (by decide) rfl ⟨γ, A1, hC1, fun b e g1 g2 => ⟨(hfr1 b (fun c => by rw [c, hC.1.1.2] at g2; cases g2)).trans g1, g2⟩⟩
              · skip
                refine k_callV dX5_answer_85 rfl lk_RX5_160 o_X5_requireSeatsLeft (as := [.ref (gMt γ (oF f (atF f n) 0))]) rfl rfl (rp_P hC) rfl rfl (w_slY hl hC (m := atF f n) (by omega) (by omega) hk3) (by decide) (by decide) (Nat.zero_le _) (Nat.zero_le _) (k8 rfl) (fun v h9 hv => ?_) (fun E h9 z => z.elim)
                obtain ⟨hv1, hv2⟩ := hv
                subst hv1
                rw [hv2]
                refine k_st (st' := []) rfl ?_
                refine k_aload_n (pc1 := 89) dX5_answer_88 rfl rfl ?_
                refine k_iload_n (pc1 := 90) dX5_answer_89 rfl rfl ?_
                refine k_aload (pc1 := 92) dX5_answer_90 rfl rfl ?_
                by_cases hk4 : 0 ≤ ko4 f (atF f n) p
                · skip
                  refine k_callV dX5_answer_92 rfl lk_RX5_164 o_X5_requireNoClashFor (as := [.int (iI p), .ref (gMt γ (oF f (atF f n) 0))]) rfl rfl (rp_P hC) rfl rfl (w_ncN hl hC (m := atF f n) (by omega) (by omega) (p := p) ⟨by omega, by omega⟩ hk4) (by decide) (by decide) (by decide) (by decide) (k8 rfl) (fun v h9 z => z.elim) (fun E h9 z => kx_out rfl ?_)
                  obtain ⟨hv1, A1, hC1, hfr1⟩ := z
                  subst hv1
                  exact kOn_mk (c := 4) (v := 32) (f' := rfF f 4 (ko4 f (atF f n) p)) (by unfold Tanswer; first | exact kI_t (by omega) | (rw [kI_f (by omega)]; first | exact kI_f (by omega) | (rw [kI_t (by omega)]; first | exact kI_t (by omega) | (rw [kI_f (by omega)]; first | exact kI_t (by omega) | (rw [kI_f (by omega)]; first | exact kI_t (by omega) | exact kI_f (by omega)))))) (by decide) rfl ⟨γ, A1, hC1, fun b e g1 g2 => ⟨(hfr1 b (fun c => by rw [c, hC.1.1.2] at g2; cases g2)).trans g1, g2⟩⟩
                · skip
                  refine k_callV dX5_answer_92 rfl lk_RX5_164 o_X5_requireNoClashFor (as := [.int (iI p), .ref (gMt γ (oF f (atF f n) 0))]) rfl rfl (rp_P hC) rfl rfl (w_ncY hl hC (m := atF f n) (by omega) (by omega) (p := p) ⟨by omega, by omega⟩ hk4) (by decide) (by decide) (Nat.zero_le _) (Nat.zero_le _) (k8 rfl) (fun v h9 hv => ?_) (fun E h9 z => z.elim)
                  obtain ⟨hv1, hv2⟩ := hv
                  subst hv1
                  rw [hv2]
                  refine k_st (st' := []) rfl ?_
                  refine k_aload (pc1 := 97) dX5_answer_95 rfl rfl ?_
                  refine k_iload_n (pc1 := 98) dX5_answer_97 rfl rfl ?_
                  refine k_iload_n (pc1 := 99) dX5_answer_98 rfl rfl ?_
                  have hpn : ((p.toNat : Nat) : Int) = p := Int.toNat_of_nonneg (by omega)
                  have hW9 : kWf (lyF f (atF f n) (4 + p) a) := by
                    have z := wf_answer hC.2.2 n p a
                    rw [Tanswer, kI_f (by omega), kI_t (by omega), kI_f (by omega), kI_f (by omega), kI_f (by omega)] at z
                    exact z
                  have hN := w_note hl hC (m := atF f n) (by omega) (by omega) (p := p.toNat) (by omega) (a := a) (by rw [hpn]; omega) (by omega) (by omega) (by rw [hpn]; exact hW9)
                  rw [hpn] at hN
                  refine k_callV dX5_answer_99 rfl lk_RX5_168 o_X2_note (as := [.int (iI p), .int (iI a)]) rfl rfl (rp_M hC (m := (atF f n)) (by omega) (by omega)) rfl rfl hN (by decide) (by decide) (Nat.zero_le _) (Nat.zero_le _) (k8 rfl) (fun v h1 hv => ?_) (fun E h9 z => z.elim)
                  obtain ⟨hv1, ⟨A1, hC1⟩, hfr1⟩ := hv
                  subst hv1
                  refine k_st (st' := []) rfl ?_
                  refine k_iload (pc1 := 104) dX5_answer_102 rfl rfl ?_
                  have htm : gOw γ (gMt γ (oF f (atF f n) 0)) = (4, (oF f (atF f n) 0).toNat) := (hC.1.2.2.2.2.2.2.1 _ (hC.2.1.2.2.2.1 (atF f n) (by omega) (by omega)).1).2.1.2
                  have hbv : kI (p = oF f (atF f n) 1) 104 (oF f (atF f n) (4 + p)) = oF f (atF f n) (4 + p) := kI_f (by omega)
                  exact k_iret dX5_answer_104 rfl (kn_c (by omega) (by omega)) (kOy_mk (v := (kI (p = oF f (atF f n) 1) 104 (oF f (atF f n) (4 + p)))) (f' := lyF f (atF f n) (4 + p) a) (by rw [hbv]; unfold Tanswer; first | exact kI_t (by omega) | (rw [kI_f (by omega)]; first | exact kI_f (by omega) | (rw [kI_t (by omega)]; first | exact kI_t (by omega) | (rw [kI_f (by omega)]; first | exact kI_t (by omega) | (rw [kI_f (by omega)]; first | exact kI_t (by omega) | exact kI_f (by omega)))))) ⟨γ, A1, hC1, fun b e g1 g2 => ⟨(hfr1 b (fun c => by rw [c, htm] at g2; cases g2)).trans g1, g2⟩⟩)
        · replace c48 : ¬(Nat.testBit (aAk A (oF f (atF f n) 0)) p.toNat = true) := kB_z.mp c48
          have h45 : oF f (atF f n) (4 + p) = 45 := Classical.not_not.mp (fun z => c48 (hpt.mpr z))
          exact k_throw 54 55 57 60 rfl dX5_answer_51 dX5_answer_54 dX5_answer_55 dX5_answer_57 dX5_answer_60 rfl rfl rfl rfl rfl (by decide) (by decide) cl_RX5_69 ini_IllegalStateException (text := "the person is the host, or was not asked") (by decide +kernel) at_RX5_73 (k8 rfl) (by decide) (by decide) (kOn_mk (c := 3) (v := 32) (f' := f) (by unfold Tanswer; first | exact kI_t (by omega) | (rw [kI_f (by omega)]; first | exact kI_f (by omega) | (rw [kI_t (by omega)]; first | exact kI_t (by omega) | (rw [kI_f (by omega)]; first | exact kI_t (by omega) | (rw [kI_f (by omega)]; first | exact kI_t (by omega) | exact kI_f (by omega)))))) (by decide) rfl (kSt_rf hC))
      · skip
        refine k_iload_n (pc1 := 18) dX5_answer_17 rfl rfl ?_
        refine k_bipush 110 (pc1 := 20) dX5_answer_18 rfl (by decide) ?_
        refine k_icmp_eq (a := a) (b := 110) dX5_answer_20 rfl (tgt := 39) rfl (by omega) (by decide) (fun c20 : a = 110 => ?_) (fun c20 : a ≠ 110 => ?_)
        · skip
          have hpp := kWf_p hC.2.2 (m := atF f n) (p := p) (by omega) (by omega) (by omega) (by omega)
          have hpt : (aAk A (oF f (atF f n) 0)).testBit p.toNat = true ↔ oF f (atF f n) (4 + p) ≠ 45 := by
            have z := (hmx.2.2.2 p.toNat (by omega)).1
            rw [Int.toNat_of_nonneg (by omega)] at z
            exact z
          have hx1 := hmx.1
          refine k_aload (pc1 := 41) dX5_answer_39 rfl rfl ?_
          refine k_get (pc1 := 44) dX5_answer_41 rfl fd_RX5_147 (rp_M hC (m := (atF f n)) (by omega) (by omega)) (v := .int (iI (((aAk A (oF f (atF f n) 0)) : Nat) : Int))) rfl ?_
          refine k_iload_n (pc1 := 45) dX5_answer_44 rfl rfl ?_
          refine k_callSP dX5_answer_45 rfl lk_RX5_150 o_X5_holdsPerson (w_X5_holdsPerson hl (aAk A (oF f (atF f n) 0)) p (by first | omega | exact kmk_lt _ 6 | exact exM_lt ⟨by omega, by omega⟩ (by first | omega | exact kmk_lt _ 6) | assumption) ⟨by omega, by omega⟩) (as := [.int (iI (((aAk A (oF f (atF f n) 0)) : Nat) : Int)), .int (iI p)]) rfl rfl rfl (by decide) (by decide) (k8 rfl) ?_
          refine k_if_ne (a := kB (Nat.testBit (aAk A (oF f (atF f n) 0)) p.toNat = true)) dX5_answer_48 rfl (tgt := 61) rfl (kB_r _) (fun c48 : kB (Nat.testBit (aAk A (oF f (atF f n) 0)) p.toNat = true) ≠ 0 => ?_) (fun c48 : kB (Nat.testBit (aAk A (oF f (atF f n) 0)) p.toNat = true) = 0 => ?_)
          · replace c48 : (Nat.testBit (aAk A (oF f (atF f n) 0)) p.toNat = true) := kB_nz.mp c48
            have h45 := hpt.mp c48
            refine k_aload (pc1 := 63) dX5_answer_61 rfl rfl ?_
            refine k_iload_n (pc1 := 64) dX5_answer_63 rfl rfl ?_
            refine k_callVP dX5_answer_64 rfl lk_RX5_156 o_X2_answerFrom (w_X2_answerFrom hl (rp_M hC (m := (atF f n)) (by omega) (by omega)) ⟨by omega, by omega⟩ hmx.1 hmx.2.1 hmx.2.2.1 p ⟨by omega, by omega⟩) (as := [.int (iI p)]) (rp_M hC (m := (atF f n)) (by omega) (by omega)) rfl rfl rfl rfl (by decide) (by decide) (k8 rfl) ?_
            refine k_val (v' := .int (iI (kI (p = oF f (atF f n) 1) 104 (oF f (atF f n) (4 + p))))) (congrArg (fun z => Value.int (iI z)) (rp_af hC (by omega) (by omega) ⟨by omega, by omega⟩)) ?_
            have hpp := kWf_p hC.2.2 (m := (atF f n)) (p := p) (by omega) (by omega) (by omega) (by omega)
            have haf : 0 ≤ (kI (p = oF f (atF f n) 1) 104 (oF f (atF f n) (4 + p))) ∧ (kI (p = oF f (atF f n) 1) 104 (oF f (atF f n) (4 + p))) < 65536 := by
              by_cases z : p = oF f (atF f n) 1
              · rw [kI_t z]; decide
              · rw [kI_f z]; omega
            refine k_istore (pc1 := 69) dX5_answer_67 rfl (by decide) (k_loc (L' := [some (.ref pl), some (.int (iI n)), some (.int (iI p)), some (.int (iI a)), some (.ref (gMt γ (oF f (atF f n) 0))), some (.int (iI (kI (p = oF f (atF f n) 1) 104 (oF f (atF f n) (4 + p)))))]) rfl ?_)
            have hbv9 : kI (p = oF f (atF f n) 1) 104 (oF f (atF f n) (4 + p)) = oF f (atF f n) (4 + p) := kI_f (by omega)
            refine k_iload (pc1 := 71) dX5_answer_69 rfl rfl ?_
            refine k_bipush 110 (pc1 := 73) dX5_answer_71 rfl (by decide) ?_
            refine k_icmp_ne (a := (kI (p = oF f (atF f n) 1) 104 (oF f (atF f n) (4 + p)))) (b := 110) dX5_answer_73 rfl (tgt := 95) rfl (by omega) (by decide) (fun c73 : (kI (p = oF f (atF f n) 1) 104 (oF f (atF f n) (4 + p))) ≠ 110 => ?_) (fun c73 : (kI (p = oF f (atF f n) 1) 104 (oF f (atF f n) (4 + p))) = 110 => ?_)
            · skip
              refine k_aload (pc1 := 97) dX5_answer_95 rfl rfl ?_
              refine k_iload_n (pc1 := 98) dX5_answer_97 rfl rfl ?_
              refine k_iload_n (pc1 := 99) dX5_answer_98 rfl rfl ?_
              have hpn : ((p.toNat : Nat) : Int) = p := Int.toNat_of_nonneg (by omega)
              have hW9 : kWf (lyF f (atF f n) (4 + p) a) := by
                have z := wf_answer hC.2.2 n p a
                rw [Tanswer, kI_f (by omega), kI_t (by omega), kI_f (by omega), kI_f (by omega), kI_f (by omega)] at z
                exact z
              have hN := w_note hl hC (m := atF f n) (by omega) (by omega) (p := p.toNat) (by omega) (a := a) (by rw [hpn]; omega) (by omega) (by omega) (by rw [hpn]; exact hW9)
              rw [hpn] at hN
              refine k_callV dX5_answer_99 rfl lk_RX5_168 o_X2_note (as := [.int (iI p), .int (iI a)]) rfl rfl (rp_M hC (m := (atF f n)) (by omega) (by omega)) rfl rfl hN (by decide) (by decide) (Nat.zero_le _) (Nat.zero_le _) (k8 rfl) (fun v h1 hv => ?_) (fun E h9 z => z.elim)
              obtain ⟨hv1, ⟨A1, hC1⟩, hfr1⟩ := hv
              subst hv1
              refine k_st (st' := []) rfl ?_
              refine k_iload (pc1 := 104) dX5_answer_102 rfl rfl ?_
              have htm : gOw γ (gMt γ (oF f (atF f n) 0)) = (4, (oF f (atF f n) 0).toNat) := (hC.1.2.2.2.2.2.2.1 _ (hC.2.1.2.2.2.1 (atF f n) (by omega) (by omega)).1).2.1.2
              have hbv : kI (p = oF f (atF f n) 1) 104 (oF f (atF f n) (4 + p)) = oF f (atF f n) (4 + p) := kI_f (by omega)
              exact k_iret dX5_answer_104 rfl (kn_c (by omega) (by omega)) (kOy_mk (v := (kI (p = oF f (atF f n) 1) 104 (oF f (atF f n) (4 + p)))) (f' := lyF f (atF f n) (4 + p) a) (by rw [hbv]; unfold Tanswer; first | exact kI_t (by omega) | (rw [kI_f (by omega)]; first | exact kI_f (by omega) | (rw [kI_t (by omega)]; first | exact kI_t (by omega) | (rw [kI_f (by omega)]; first | exact kI_t (by omega) | (rw [kI_f (by omega)]; first | exact kI_t (by omega) | exact kI_f (by omega)))))) ⟨γ, A1, hC1, fun b e g1 g2 => ⟨(hfr1 b (fun c => by rw [c, htm] at g2; cases g2)).trans g1, g2⟩⟩)
            · skip
              refine k_iload_n (pc1 := 77) dX5_answer_76 rfl rfl ?_
              refine k_bipush 110 (pc1 := 79) dX5_answer_77 rfl (by decide) ?_
              refine k_icmp_eq (a := a) (b := 110) dX5_answer_79 rfl (tgt := 95) rfl (by omega) (by decide) (fun c79 : a = 110 => ?_) (fun c79 : a ≠ 110 => ?_)
              · skip
                refine k_aload (pc1 := 97) dX5_answer_95 rfl rfl ?_
                refine k_iload_n (pc1 := 98) dX5_answer_97 rfl rfl ?_
                refine k_iload_n (pc1 := 99) dX5_answer_98 rfl rfl ?_
                have hpn : ((p.toNat : Nat) : Int) = p := Int.toNat_of_nonneg (by omega)
                have hW9 : kWf (lyF f (atF f n) (4 + p) a) := by
                  have z := wf_answer hC.2.2 n p a
                  rw [Tanswer, kI_f (by omega), kI_t (by omega), kI_f (by omega), kI_f (by omega), kI_f (by omega)] at z
                  exact z
                have hN := w_note hl hC (m := atF f n) (by omega) (by omega) (p := p.toNat) (by omega) (a := a) (by rw [hpn]; omega) (by omega) (by omega) (by rw [hpn]; exact hW9)
                rw [hpn] at hN
                refine k_callV dX5_answer_99 rfl lk_RX5_168 o_X2_note (as := [.int (iI p), .int (iI a)]) rfl rfl (rp_M hC (m := (atF f n)) (by omega) (by omega)) rfl rfl hN (by decide) (by decide) (Nat.zero_le _) (Nat.zero_le _) (k8 rfl) (fun v h1 hv => ?_) (fun E h9 z => z.elim)
                obtain ⟨hv1, ⟨A1, hC1⟩, hfr1⟩ := hv
                subst hv1
                refine k_st (st' := []) rfl ?_
                refine k_iload (pc1 := 104) dX5_answer_102 rfl rfl ?_
                have htm : gOw γ (gMt γ (oF f (atF f n) 0)) = (4, (oF f (atF f n) 0).toNat) := (hC.1.2.2.2.2.2.2.1 _ (hC.2.1.2.2.2.1 (atF f n) (by omega) (by omega)).1).2.1.2
                have hbv : kI (p = oF f (atF f n) 1) 104 (oF f (atF f n) (4 + p)) = oF f (atF f n) (4 + p) := kI_f (by omega)
                exact k_iret dX5_answer_104 rfl (kn_c (by omega) (by omega)) (kOy_mk (v := (kI (p = oF f (atF f n) 1) 104 (oF f (atF f n) (4 + p)))) (f' := lyF f (atF f n) (4 + p) a) (by rw [hbv]; unfold Tanswer; first | exact kI_t (by omega) | (rw [kI_f (by omega)]; first | exact kI_f (by omega) | (rw [kI_t (by omega)]; first | exact kI_t (by omega) | (rw [kI_f (by omega)]; first | exact kI_t (by omega) | (rw [kI_f (by omega)]; first | exact kI_t (by omega) | exact kI_f (by omega)))))) ⟨γ, A1, hC1, fun b e g1 g2 => ⟨(hfr1 b (fun c => by rw [c, htm] at g2; cases g2)).trans g1, g2⟩⟩)
              · skip
                refine k_aload_n (pc1 := 83) dX5_answer_82 rfl rfl ?_
                refine k_aload (pc1 := 85) dX5_answer_83 rfl rfl ?_
                by_cases hk3 : 0 ≤ ko3 f (atF f n)
                · skip
                  refine k_callV dX5_answer_85 rfl lk_RX5_160 o_X5_requireSeatsLeft (as := [.ref (gMt γ (oF f (atF f n) 0))]) rfl rfl (rp_P hC) rfl rfl (w_slN hl hC (m := atF f n) (by omega) (by omega) hk3) (by decide) (by decide) (by decide) (by decide) (k8 rfl) (fun v h9 z => z.elim) (fun E h9 z => kx_out rfl ?_)
                  obtain ⟨hv1, A1, hC1, hfr1⟩ := z
                  subst hv1
                  exact kOn_mk (c := 4) (v := 32) (f' := rfF f 3 (ko3 f (atF f n))) (by unfold Tanswer; first | exact kI_t (by omega) | (rw [kI_f (by omega)]; first | exact kI_f (by omega) | (rw [kI_t (by omega)]; first | exact kI_t (by omega) | (rw [kI_f (by omega)]; first | exact kI_t (by omega) | (rw [kI_f (by omega)]; first | exact kI_t (by omega) | exact kI_f (by omega)))))) (by decide) rfl ⟨γ, A1, hC1, fun b e g1 g2 => ⟨(hfr1 b (fun c => by rw [c, hC.1.1.2] at g2; cases g2)).trans g1, g2⟩⟩
                · skip
                  refine k_callV dX5_answer_85 rfl lk_RX5_160 o_X5_requireSeatsLeft (as := [.ref (gMt γ (oF f (atF f n) 0))]) rfl rfl (rp_P hC) rfl rfl (w_slY hl hC (m := atF f n) (by omega) (by omega) hk3) (by decide) (by decide) (Nat.zero_le _) (Nat.zero_le _) (k8 rfl) (fun v h9 hv => ?_) (fun E h9 z => z.elim)
                  obtain ⟨hv1, hv2⟩ := hv
                  subst hv1
                  rw [hv2]
                  refine k_st (st' := []) rfl ?_
                  refine k_aload_n (pc1 := 89) dX5_answer_88 rfl rfl ?_
                  refine k_iload_n (pc1 := 90) dX5_answer_89 rfl rfl ?_
                  refine k_aload (pc1 := 92) dX5_answer_90 rfl rfl ?_
                  by_cases hk4 : 0 ≤ ko4 f (atF f n) p
                  · skip
                    refine k_callV dX5_answer_92 rfl lk_RX5_164 o_X5_requireNoClashFor (as := [.int (iI p), .ref (gMt γ (oF f (atF f n) 0))]) rfl rfl (rp_P hC) rfl rfl (w_ncN hl hC (m := atF f n) (by omega) (by omega) (p := p) ⟨by omega, by omega⟩ hk4) (by decide) (by decide) (by decide) (by decide) (k8 rfl) (fun v h9 z => z.elim) (fun E h9 z => kx_out rfl ?_)
                    obtain ⟨hv1, A1, hC1, hfr1⟩ := z
                    subst hv1
                    exact kOn_mk (c := 4) (v := 32) (f' := rfF f 4 (ko4 f (atF f n) p)) (by unfold Tanswer; first | exact kI_t (by omega) | (rw [kI_f (by omega)]; first | exact kI_f (by omega) | (rw [kI_t (by omega)]; first | exact kI_t (by omega) | (rw [kI_f (by omega)]; first | exact kI_t (by omega) | (rw [kI_f (by omega)]; first | exact kI_t (by omega) | exact kI_f (by omega)))))) (by decide) rfl ⟨γ, A1, hC1, fun b e g1 g2 => ⟨(hfr1 b (fun c => by rw [c, hC.1.1.2] at g2; cases g2)).trans g1, g2⟩⟩
                  · skip
                    refine k_callV dX5_answer_92 rfl lk_RX5_164 o_X5_requireNoClashFor (as := [.int (iI p), .ref (gMt γ (oF f (atF f n) 0))]) rfl rfl (rp_P hC) rfl rfl (w_ncY hl hC (m := atF f n) (by omega) (by omega) (p := p) ⟨by omega, by omega⟩ hk4) (by decide) (by decide) (Nat.zero_le _) (Nat.zero_le _) (k8 rfl) (fun v h9 hv => ?_) (fun E h9 z => z.elim)
                    obtain ⟨hv1, hv2⟩ := hv
                    subst hv1
                    rw [hv2]
                    refine k_st (st' := []) rfl ?_
                    refine k_aload (pc1 := 97) dX5_answer_95 rfl rfl ?_
                    refine k_iload_n (pc1 := 98) dX5_answer_97 rfl rfl ?_
                    refine k_iload_n (pc1 := 99) dX5_answer_98 rfl rfl ?_
                    have hpn : ((p.toNat : Nat) : Int) = p := Int.toNat_of_nonneg (by omega)
                    have hW9 : kWf (lyF f (atF f n) (4 + p) a) := by
                      have z := wf_answer hC.2.2 n p a
                      rw [Tanswer, kI_f (by omega), kI_t (by omega), kI_f (by omega), kI_f (by omega), kI_f (by omega)] at z
                      exact z
                    have hN := w_note hl hC (m := atF f n) (by omega) (by omega) (p := p.toNat) (by omega) (a := a) (by rw [hpn]; omega) (by omega) (by omega) (by rw [hpn]; exact hW9)
                    rw [hpn] at hN
                    refine k_callV dX5_answer_99 rfl lk_RX5_168 o_X2_note (as := [.int (iI p), .int (iI a)]) rfl rfl (rp_M hC (m := (atF f n)) (by omega) (by omega)) rfl rfl hN (by decide) (by decide) (Nat.zero_le _) (Nat.zero_le _) (k8 rfl) (fun v h1 hv => ?_) (fun E h9 z => z.elim)
                    obtain ⟨hv1, ⟨A1, hC1⟩, hfr1⟩ := hv
                    subst hv1
                    refine k_st (st' := []) rfl ?_
                    refine k_iload (pc1 := 104) dX5_answer_102 rfl rfl ?_
                    have htm : gOw γ (gMt γ (oF f (atF f n) 0)) = (4, (oF f (atF f n) 0).toNat) := (hC.1.2.2.2.2.2.2.1 _ (hC.2.1.2.2.2.1 (atF f n) (by omega) (by omega)).1).2.1.2
                    have hbv : kI (p = oF f (atF f n) 1) 104 (oF f (atF f n) (4 + p)) = oF f (atF f n) (4 + p) := kI_f (by omega)
                    exact k_iret dX5_answer_104 rfl (kn_c (by omega) (by omega)) (kOy_mk (v := (kI (p = oF f (atF f n) 1) 104 (oF f (atF f n) (4 + p)))) (f' := lyF f (atF f n) (4 + p) a) (by rw [hbv]; unfold Tanswer; first | exact kI_t (by omega) | (rw [kI_f (by omega)]; first | exact kI_f (by omega) | (rw [kI_t (by omega)]; first | exact kI_t (by omega) | (rw [kI_f (by omega)]; first | exact kI_t (by omega) | (rw [kI_f (by omega)]; first | exact kI_t (by omega) | exact kI_f (by omega)))))) ⟨γ, A1, hC1, fun b e g1 g2 => ⟨(hfr1 b (fun c => by rw [c, htm] at g2; cases g2)).trans g1, g2⟩⟩)
          · replace c48 : ¬(Nat.testBit (aAk A (oF f (atF f n) 0)) p.toNat = true) := kB_z.mp c48
            have h45 : oF f (atF f n) (4 + p) = 45 := Classical.not_not.mp (fun z => c48 (hpt.mpr z))
            exact k_throw 54 55 57 60 rfl dX5_answer_51 dX5_answer_54 dX5_answer_55 dX5_answer_57 dX5_answer_60 rfl rfl rfl rfl rfl (by decide) (by decide) cl_RX5_69 ini_IllegalStateException (text := "the person is the host, or was not asked") (by decide +kernel) at_RX5_73 (k8 rfl) (by decide) (by decide) (kOn_mk (c := 3) (v := 32) (f' := f) (by unfold Tanswer; first | exact kI_t (by omega) | (rw [kI_f (by omega)]; first | exact kI_f (by omega) | (rw [kI_t (by omega)]; first | exact kI_t (by omega) | (rw [kI_f (by omega)]; first | exact kI_t (by omega) | (rw [kI_f (by omega)]; first | exact kI_t (by omega) | exact kI_f (by omega)))))) (by decide) rfl (kSt_rf hC))
        · skip
          refine k_iload_n (pc1 := 24) dX5_answer_23 rfl rfl ?_
          refine k_bipush 111 (pc1 := 26) dX5_answer_24 rfl (by decide) ?_
          refine k_icmp_eq (a := a) (b := 111) dX5_answer_26 rfl (tgt := 39) rfl (by omega) (by decide) (fun c26 : a = 111 => ?_) (fun c26 : a ≠ 111 => ?_)
          · skip
            have hpp := kWf_p hC.2.2 (m := atF f n) (p := p) (by omega) (by omega) (by omega) (by omega)
            have hpt : (aAk A (oF f (atF f n) 0)).testBit p.toNat = true ↔ oF f (atF f n) (4 + p) ≠ 45 := by
              have z := (hmx.2.2.2 p.toNat (by omega)).1
              rw [Int.toNat_of_nonneg (by omega)] at z
              exact z
            have hx1 := hmx.1
            refine k_aload (pc1 := 41) dX5_answer_39 rfl rfl ?_
            refine k_get (pc1 := 44) dX5_answer_41 rfl fd_RX5_147 (rp_M hC (m := (atF f n)) (by omega) (by omega)) (v := .int (iI (((aAk A (oF f (atF f n) 0)) : Nat) : Int))) rfl ?_
            refine k_iload_n (pc1 := 45) dX5_answer_44 rfl rfl ?_
            refine k_callSP dX5_answer_45 rfl lk_RX5_150 o_X5_holdsPerson (w_X5_holdsPerson hl (aAk A (oF f (atF f n) 0)) p (by first | omega | exact kmk_lt _ 6 | exact exM_lt ⟨by omega, by omega⟩ (by first | omega | exact kmk_lt _ 6) | assumption) ⟨by omega, by omega⟩) (as := [.int (iI (((aAk A (oF f (atF f n) 0)) : Nat) : Int)), .int (iI p)]) rfl rfl rfl (by decide) (by decide) (k8 rfl) ?_
            refine k_if_ne (a := kB (Nat.testBit (aAk A (oF f (atF f n) 0)) p.toNat = true)) dX5_answer_48 rfl (tgt := 61) rfl (kB_r _) (fun c48 : kB (Nat.testBit (aAk A (oF f (atF f n) 0)) p.toNat = true) ≠ 0 => ?_) (fun c48 : kB (Nat.testBit (aAk A (oF f (atF f n) 0)) p.toNat = true) = 0 => ?_)
            · replace c48 : (Nat.testBit (aAk A (oF f (atF f n) 0)) p.toNat = true) := kB_nz.mp c48
              have h45 := hpt.mp c48
              refine k_aload (pc1 := 63) dX5_answer_61 rfl rfl ?_
              refine k_iload_n (pc1 := 64) dX5_answer_63 rfl rfl ?_
              refine k_callVP dX5_answer_64 rfl lk_RX5_156 o_X2_answerFrom (w_X2_answerFrom hl (rp_M hC (m := (atF f n)) (by omega) (by omega)) ⟨by omega, by omega⟩ hmx.1 hmx.2.1 hmx.2.2.1 p ⟨by omega, by omega⟩) (as := [.int (iI p)]) (rp_M hC (m := (atF f n)) (by omega) (by omega)) rfl rfl rfl rfl (by decide) (by decide) (k8 rfl) ?_
              refine k_val (v' := .int (iI (kI (p = oF f (atF f n) 1) 104 (oF f (atF f n) (4 + p))))) (congrArg (fun z => Value.int (iI z)) (rp_af hC (by omega) (by omega) ⟨by omega, by omega⟩)) ?_
              have hpp := kWf_p hC.2.2 (m := (atF f n)) (p := p) (by omega) (by omega) (by omega) (by omega)
              have haf : 0 ≤ (kI (p = oF f (atF f n) 1) 104 (oF f (atF f n) (4 + p))) ∧ (kI (p = oF f (atF f n) 1) 104 (oF f (atF f n) (4 + p))) < 65536 := by
                by_cases z : p = oF f (atF f n) 1
                · rw [kI_t z]; decide
                · rw [kI_f z]; omega
              refine k_istore (pc1 := 69) dX5_answer_67 rfl (by decide) (k_loc (L' := [some (.ref pl), some (.int (iI n)), some (.int (iI p)), some (.int (iI a)), some (.ref (gMt γ (oF f (atF f n) 0))), some (.int (iI (kI (p = oF f (atF f n) 1) 104 (oF f (atF f n) (4 + p)))))]) rfl ?_)
              have hbv9 : kI (p = oF f (atF f n) 1) 104 (oF f (atF f n) (4 + p)) = oF f (atF f n) (4 + p) := kI_f (by omega)
              refine k_iload (pc1 := 71) dX5_answer_69 rfl rfl ?_
              refine k_bipush 110 (pc1 := 73) dX5_answer_71 rfl (by decide) ?_
              refine k_icmp_ne (a := (kI (p = oF f (atF f n) 1) 104 (oF f (atF f n) (4 + p)))) (b := 110) dX5_answer_73 rfl (tgt := 95) rfl (by omega) (by decide) (fun c73 : (kI (p = oF f (atF f n) 1) 104 (oF f (atF f n) (4 + p))) ≠ 110 => ?_) (fun c73 : (kI (p = oF f (atF f n) 1) 104 (oF f (atF f n) (4 + p))) = 110 => ?_)
              · skip
                refine k_aload (pc1 := 97) dX5_answer_95 rfl rfl ?_
                refine k_iload_n (pc1 := 98) dX5_answer_97 rfl rfl ?_
                refine k_iload_n (pc1 := 99) dX5_answer_98 rfl rfl ?_
                have hpn : ((p.toNat : Nat) : Int) = p := Int.toNat_of_nonneg (by omega)
                have hW9 : kWf (lyF f (atF f n) (4 + p) a) := by
                  have z := wf_answer hC.2.2 n p a
                  rw [Tanswer, kI_f (by omega), kI_t (by omega), kI_f (by omega), kI_f (by omega), kI_f (by omega)] at z
                  exact z
                have hN := w_note hl hC (m := atF f n) (by omega) (by omega) (p := p.toNat) (by omega) (a := a) (by rw [hpn]; omega) (by omega) (by omega) (by rw [hpn]; exact hW9)
                rw [hpn] at hN
                refine k_callV dX5_answer_99 rfl lk_RX5_168 o_X2_note (as := [.int (iI p), .int (iI a)]) rfl rfl (rp_M hC (m := (atF f n)) (by omega) (by omega)) rfl rfl hN (by decide) (by decide) (Nat.zero_le _) (Nat.zero_le _) (k8 rfl) (fun v h1 hv => ?_) (fun E h9 z => z.elim)
                obtain ⟨hv1, ⟨A1, hC1⟩, hfr1⟩ := hv
                subst hv1
                refine k_st (st' := []) rfl ?_
                refine k_iload (pc1 := 104) dX5_answer_102 rfl rfl ?_
                have htm : gOw γ (gMt γ (oF f (atF f n) 0)) = (4, (oF f (atF f n) 0).toNat) := (hC.1.2.2.2.2.2.2.1 _ (hC.2.1.2.2.2.1 (atF f n) (by omega) (by omega)).1).2.1.2
                have hbv : kI (p = oF f (atF f n) 1) 104 (oF f (atF f n) (4 + p)) = oF f (atF f n) (4 + p) := kI_f (by omega)
                exact k_iret dX5_answer_104 rfl (kn_c (by omega) (by omega)) (kOy_mk (v := (kI (p = oF f (atF f n) 1) 104 (oF f (atF f n) (4 + p)))) (f' := lyF f (atF f n) (4 + p) a) (by rw [hbv]; unfold Tanswer; first | exact kI_t (by omega) | (rw [kI_f (by omega)]; first | exact kI_f (by omega) | (rw [kI_t (by omega)]; first | exact kI_t (by omega) | (rw [kI_f (by omega)]; first | exact kI_t (by omega) | (rw [kI_f (by omega)]; first | exact kI_t (by omega) | exact kI_f (by omega)))))) ⟨γ, A1, hC1, fun b e g1 g2 => ⟨(hfr1 b (fun c => by rw [c, htm] at g2; cases g2)).trans g1, g2⟩⟩)
              · skip
                refine k_iload_n (pc1 := 77) dX5_answer_76 rfl rfl ?_
                refine k_bipush 110 (pc1 := 79) dX5_answer_77 rfl (by decide) ?_
                refine k_icmp_eq (a := a) (b := 110) dX5_answer_79 rfl (tgt := 95) rfl (by omega) (by decide) (fun c79 : a = 110 => ?_) (fun c79 : a ≠ 110 => ?_)
                · skip
                  refine k_aload (pc1 := 97) dX5_answer_95 rfl rfl ?_
                  refine k_iload_n (pc1 := 98) dX5_answer_97 rfl rfl ?_
                  refine k_iload_n (pc1 := 99) dX5_answer_98 rfl rfl ?_
                  have hpn : ((p.toNat : Nat) : Int) = p := Int.toNat_of_nonneg (by omega)
                  have hW9 : kWf (lyF f (atF f n) (4 + p) a) := by
                    have z := wf_answer hC.2.2 n p a
                    rw [Tanswer, kI_f (by omega), kI_t (by omega), kI_f (by omega), kI_f (by omega), kI_f (by omega)] at z
                    exact z
                  have hN := w_note hl hC (m := atF f n) (by omega) (by omega) (p := p.toNat) (by omega) (a := a) (by rw [hpn]; omega) (by omega) (by omega) (by rw [hpn]; exact hW9)
                  rw [hpn] at hN
                  refine k_callV dX5_answer_99 rfl lk_RX5_168 o_X2_note (as := [.int (iI p), .int (iI a)]) rfl rfl (rp_M hC (m := (atF f n)) (by omega) (by omega)) rfl rfl hN (by decide) (by decide) (Nat.zero_le _) (Nat.zero_le _) (k8 rfl) (fun v h1 hv => ?_) (fun E h9 z => z.elim)
                  obtain ⟨hv1, ⟨A1, hC1⟩, hfr1⟩ := hv
                  subst hv1
                  refine k_st (st' := []) rfl ?_
                  refine k_iload (pc1 := 104) dX5_answer_102 rfl rfl ?_
                  have htm : gOw γ (gMt γ (oF f (atF f n) 0)) = (4, (oF f (atF f n) 0).toNat) := (hC.1.2.2.2.2.2.2.1 _ (hC.2.1.2.2.2.1 (atF f n) (by omega) (by omega)).1).2.1.2
                  have hbv : kI (p = oF f (atF f n) 1) 104 (oF f (atF f n) (4 + p)) = oF f (atF f n) (4 + p) := kI_f (by omega)
                  exact k_iret dX5_answer_104 rfl (kn_c (by omega) (by omega)) (kOy_mk (v := (kI (p = oF f (atF f n) 1) 104 (oF f (atF f n) (4 + p)))) (f' := lyF f (atF f n) (4 + p) a) (by rw [hbv]; unfold Tanswer; first | exact kI_t (by omega) | (rw [kI_f (by omega)]; first | exact kI_f (by omega) | (rw [kI_t (by omega)]; first | exact kI_t (by omega) | (rw [kI_f (by omega)]; first | exact kI_t (by omega) | (rw [kI_f (by omega)]; first | exact kI_t (by omega) | exact kI_f (by omega)))))) ⟨γ, A1, hC1, fun b e g1 g2 => ⟨(hfr1 b (fun c => by rw [c, htm] at g2; cases g2)).trans g1, g2⟩⟩)
                · skip
                  refine k_aload_n (pc1 := 83) dX5_answer_82 rfl rfl ?_
                  refine k_aload (pc1 := 85) dX5_answer_83 rfl rfl ?_
                  by_cases hk3 : 0 ≤ ko3 f (atF f n)
                  · skip
                    refine k_callV dX5_answer_85 rfl lk_RX5_160 o_X5_requireSeatsLeft (as := [.ref (gMt γ (oF f (atF f n) 0))]) rfl rfl (rp_P hC) rfl rfl (w_slN hl hC (m := atF f n) (by omega) (by omega) hk3) (by decide) (by decide) (by decide) (by decide) (k8 rfl) (fun v h9 z => z.elim) (fun E h9 z => kx_out rfl ?_)
                    obtain ⟨hv1, A1, hC1, hfr1⟩ := z
                    subst hv1
                    exact kOn_mk (c := 4) (v := 32) (f' := rfF f 3 (ko3 f (atF f n))) (by unfold Tanswer; first | exact kI_t (by omega) | (rw [kI_f (by omega)]; first | exact kI_f (by omega) | (rw [kI_t (by omega)]; first | exact kI_t (by omega) | (rw [kI_f (by omega)]; first | exact kI_t (by omega) | (rw [kI_f (by omega)]; first | exact kI_t (by omega) | exact kI_f (by omega)))))) (by decide) rfl ⟨γ, A1, hC1, fun b e g1 g2 => ⟨(hfr1 b (fun c => by rw [c, hC.1.1.2] at g2; cases g2)).trans g1, g2⟩⟩
                  · skip
                    refine k_callV dX5_answer_85 rfl lk_RX5_160 o_X5_requireSeatsLeft (as := [.ref (gMt γ (oF f (atF f n) 0))]) rfl rfl (rp_P hC) rfl rfl (w_slY hl hC (m := atF f n) (by omega) (by omega) hk3) (by decide) (by decide) (Nat.zero_le _) (Nat.zero_le _) (k8 rfl) (fun v h9 hv => ?_) (fun E h9 z => z.elim)
                    obtain ⟨hv1, hv2⟩ := hv
                    subst hv1
                    rw [hv2]
                    refine k_st (st' := []) rfl ?_
                    refine k_aload_n (pc1 := 89) dX5_answer_88 rfl rfl ?_
                    refine k_iload_n (pc1 := 90) dX5_answer_89 rfl rfl ?_
                    refine k_aload (pc1 := 92) dX5_answer_90 rfl rfl ?_
                    by_cases hk4 : 0 ≤ ko4 f (atF f n) p
                    · skip
                      refine k_callV dX5_answer_92 rfl lk_RX5_164 o_X5_requireNoClashFor (as := [.int (iI p), .ref (gMt γ (oF f (atF f n) 0))]) rfl rfl (rp_P hC) rfl rfl (w_ncN hl hC (m := atF f n) (by omega) (by omega) (p := p) ⟨by omega, by omega⟩ hk4) (by decide) (by decide) (by decide) (by decide) (k8 rfl) (fun v h9 z => z.elim) (fun E h9 z => kx_out rfl ?_)
                      obtain ⟨hv1, A1, hC1, hfr1⟩ := z
                      subst hv1
                      exact kOn_mk (c := 4) (v := 32) (f' := rfF f 4 (ko4 f (atF f n) p)) (by unfold Tanswer; first | exact kI_t (by omega) | (rw [kI_f (by omega)]; first | exact kI_f (by omega) | (rw [kI_t (by omega)]; first | exact kI_t (by omega) | (rw [kI_f (by omega)]; first | exact kI_t (by omega) | (rw [kI_f (by omega)]; first | exact kI_t (by omega) | exact kI_f (by omega)))))) (by decide) rfl ⟨γ, A1, hC1, fun b e g1 g2 => ⟨(hfr1 b (fun c => by rw [c, hC.1.1.2] at g2; cases g2)).trans g1, g2⟩⟩
                    · skip
                      refine k_callV dX5_answer_92 rfl lk_RX5_164 o_X5_requireNoClashFor (as := [.int (iI p), .ref (gMt γ (oF f (atF f n) 0))]) rfl rfl (rp_P hC) rfl rfl (w_ncY hl hC (m := atF f n) (by omega) (by omega) (p := p) ⟨by omega, by omega⟩ hk4) (by decide) (by decide) (Nat.zero_le _) (Nat.zero_le _) (k8 rfl) (fun v h9 hv => ?_) (fun E h9 z => z.elim)
                      obtain ⟨hv1, hv2⟩ := hv
                      subst hv1
                      rw [hv2]
                      refine k_st (st' := []) rfl ?_
                      refine k_aload (pc1 := 97) dX5_answer_95 rfl rfl ?_
                      refine k_iload_n (pc1 := 98) dX5_answer_97 rfl rfl ?_
                      refine k_iload_n (pc1 := 99) dX5_answer_98 rfl rfl ?_
                      have hpn : ((p.toNat : Nat) : Int) = p := Int.toNat_of_nonneg (by omega)
                      have hW9 : kWf (lyF f (atF f n) (4 + p) a) := by
                        have z := wf_answer hC.2.2 n p a
                        rw [Tanswer, kI_f (by omega), kI_t (by omega), kI_f (by omega), kI_f (by omega), kI_f (by omega)] at z
                        exact z
                      have hN := w_note hl hC (m := atF f n) (by omega) (by omega) (p := p.toNat) (by omega) (a := a) (by rw [hpn]; omega) (by omega) (by omega) (by rw [hpn]; exact hW9)
                      rw [hpn] at hN
                      refine k_callV dX5_answer_99 rfl lk_RX5_168 o_X2_note (as := [.int (iI p), .int (iI a)]) rfl rfl (rp_M hC (m := (atF f n)) (by omega) (by omega)) rfl rfl hN (by decide) (by decide) (Nat.zero_le _) (Nat.zero_le _) (k8 rfl) (fun v h1 hv => ?_) (fun E h9 z => z.elim)
                      obtain ⟨hv1, ⟨A1, hC1⟩, hfr1⟩ := hv
                      subst hv1
                      refine k_st (st' := []) rfl ?_
                      refine k_iload (pc1 := 104) dX5_answer_102 rfl rfl ?_
                      have htm : gOw γ (gMt γ (oF f (atF f n) 0)) = (4, (oF f (atF f n) 0).toNat) := (hC.1.2.2.2.2.2.2.1 _ (hC.2.1.2.2.2.1 (atF f n) (by omega) (by omega)).1).2.1.2
                      have hbv : kI (p = oF f (atF f n) 1) 104 (oF f (atF f n) (4 + p)) = oF f (atF f n) (4 + p) := kI_f (by omega)
                      exact k_iret dX5_answer_104 rfl (kn_c (by omega) (by omega)) (kOy_mk (v := (kI (p = oF f (atF f n) 1) 104 (oF f (atF f n) (4 + p)))) (f' := lyF f (atF f n) (4 + p) a) (by rw [hbv]; unfold Tanswer; first | exact kI_t (by omega) | (rw [kI_f (by omega)]; first | exact kI_f (by omega) | (rw [kI_t (by omega)]; first | exact kI_t (by omega) | (rw [kI_f (by omega)]; first | exact kI_t (by omega) | (rw [kI_f (by omega)]; first | exact kI_t (by omega) | exact kI_f (by omega)))))) ⟨γ, A1, hC1, fun b e g1 g2 => ⟨(hfr1 b (fun c => by rw [c, htm] at g2; cases g2)).trans g1, g2⟩⟩)
            · replace c48 : ¬(Nat.testBit (aAk A (oF f (atF f n) 0)) p.toNat = true) := kB_z.mp c48
              have h45 : oF f (atF f n) (4 + p) = 45 := Classical.not_not.mp (fun z => c48 (hpt.mpr z))
              exact k_throw 54 55 57 60 rfl dX5_answer_51 dX5_answer_54 dX5_answer_55 dX5_answer_57 dX5_answer_60 rfl rfl rfl rfl rfl (by decide) (by decide) cl_RX5_69 ini_IllegalStateException (text := "the person is the host, or was not asked") (by decide +kernel) at_RX5_73 (k8 rfl) (by decide) (by decide) (kOn_mk (c := 3) (v := 32) (f' := f) (by unfold Tanswer; first | exact kI_t (by omega) | (rw [kI_f (by omega)]; first | exact kI_f (by omega) | (rw [kI_t (by omega)]; first | exact kI_t (by omega) | (rw [kI_f (by omega)]; first | exact kI_t (by omega) | (rw [kI_f (by omega)]; first | exact kI_t (by omega) | exact kI_f (by omega)))))) (by decide) rfl (kSt_rf hC))
          · skip
            exact k_throw 32 33 35 38 rfl dX5_answer_29 dX5_answer_32 dX5_answer_33 dX5_answer_35 dX5_answer_38 rfl rfl rfl rfl rfl (by decide) (by decide) cl_RX5_142 ini_IllegalArgumentException (text := "no such answer") (by decide +kernel) at_RX5_146 (k8 rfl) (by decide) (by decide) (kOn_mk (c := 2) (v := 32) (f' := f) (by unfold Tanswer; first | exact kI_t (by omega) | (rw [kI_f (by omega)]; first | exact kI_f (by omega) | (rw [kI_t (by omega)]; first | exact kI_t (by omega) | (rw [kI_f (by omega)]; first | exact kI_t (by omega) | (rw [kI_f (by omega)]; first | exact kI_t (by omega) | exact kI_f (by omega)))))) (by decide) rfl (kSt_rf hC))
    · skip
      refine k_callS dX5_answer_8 rfl rfl lk_RX5_58 o_X5_requirePerson (as := [.int (iI p)]) rfl rfl (w_rpN hl (by omega) hq8) (by decide) (by decide) (by decide) (by decide) (k8 rfl) (fun v h9 z => z.elim) (fun E h9 z => kx_out rfl ?_)
      obtain ⟨hv1, hv2⟩ := z
      subst hv1
      rw [hv2]
      exact (kOn_mk (c := 2) (v := 32) (f' := f) (by unfold Tanswer; first | exact kI_t (by omega) | (rw [kI_f (by omega)]; first | exact kI_f (by omega) | (rw [kI_t (by omega)]; first | exact kI_t (by omega) | (rw [kI_f (by omega)]; first | exact kI_t (by omega) | (rw [kI_f (by omega)]; first | exact kI_t (by omega) | exact kI_f (by omega)))))) (by decide) rfl (kSt_rf hC))
