/-! ===== the reference: rooms, clashes, walked ===== -/
theorem w_X6_fits {l : Launch} {G : kG} {h : kAH} {o g r : Nat} {c wm wd : Int} {f : Nat → Int} (hl : l.stackTraces = false) (hM : kMd G h o g r c wm wd f) (rm : Int) (q : Nat) (k t n : Int) (hr : 0 ≤ rm ∧ rm < 4) (hq : q < 64) (hW : kWf f) (hwm : -1 ≤ wm ∧ wm < 8) (hwd : -1 ≤ wd ∧ wd < 6) (hk : 0 ≤ k ∧ k < 28) (ht : 0 ≤ t ∧ t < 16) (hn : 1 ≤ n ∧ n ≤ 6)  : kP l G m_X6_fits 5 [.ref o, .int (iI rm), .int (iI ((q : Nat) : Int)), .int (iI k), .int (iI t), .int (iI n)] h (.int (iI (kB (fitF f wm wd rm q k t n)))) := by
  have h8 := kWf_cnt hW
  have hr4 := kWf_room hW hr.1 hr.2
  have hp6 := kpo_rng q 6
  have hgp := kWf_gap hW
  refine kC_of hl rfl rfl (Nat.le_of_ble_eq_true rfl) (L := [some (.ref o), some (.int (iI rm)), some (.int (iI ((q : Nat) : Int))), some (.int (iI k)), some (.int (iI t)), some (.int (iI n)), none, none, none, none]) rfl ?_
  refine k_aload_n (pc1 := 1) dX6_fits_0 rfl rfl ?_
  refine k_get (pc1 := 4) dX6_fits_1 rfl fd_RX6_7 hM.1 (v := .ref g) rfl ?_
  refine k_iconst (pc1 := 5) dX6_fits_4 rfl ?_
  refine k_iload_n (pc1 := 6) dX6_fits_5 rfl rfl ?_
  refine k_iadd (a := 5) (b := rm) (pc1 := 7) dX6_fits_6 rfl ?_
  refine k_iald (i := (5 + rm)) (f := f) (pc1 := 8) dX6_fits_7 rfl hM.2.1 (N := 380) (by omega) (by omega) (by decide) (k_val (v' := .int (iI (f (5 + rm).toNat))) rfl ?_)
  refine k_iload_n (pc1 := 9) dX6_fits_8 rfl rfl ?_
  refine k_callSP dX6_fits_9 rfl lk_RX6_63 o_X6_many (w_X6_many hl q (by first | omega | exact kmk_lt _ _ | assumption)) (as := [.int (iI ((q : Nat) : Int))]) rfl rfl rfl (by decide) (by decide) (k8 rfl) ?_
  refine k_icmp_ge (a := (f (5 + rm).toNat)) (b := (kpo q 6)) dX6_fits_12 rfl (tgt := 17) rfl (by omega) (by omega) (fun c12 : (kpo q 6) ≤ (f (5 + rm).toNat) => ?_) (fun c12 : (f (5 + rm).toNat) < (kpo q 6) => ?_)
  · skip
    refine k_iconst (pc1 := 18) dX6_fits_17 rfl ?_
    refine k_istore (pc1 := 20) dX6_fits_18 rfl (by decide) (k_loc (L' := [some (.ref o), some (.int (iI rm)), some (.int (iI ((q : Nat) : Int))), some (.int (iI k)), some (.int (iI t)), some (.int (iI n)), some (.int (iI 0)), none, none, none]) rfl ?_)
    have hloop20 : ∀ (zz : Nat) (m : Int), zz = (f 1 - m).toNat → (0 ≤ m) → (m ≤ f 1) → (alI f (fbP f wm wd rm q k t n) m 0) → kW l G m_X6_fits 5 (kPq (.int (iI (kB (fitF f wm wd rm q k t n)))) h) kNo 0 0 20 [some (.ref o), some (.int (iI rm)), some (.int (iI ((q : Nat) : Int))), some (.int (iI k)), some (.int (iI t)), some (.int (iI n)), some (.int (iI m)), none, none, none] [] h := by
      intro zz
      induction zz using Nat.strongRecOn with
      | ind zz ih20 =>
      intro m hr20 hm0 hm1 hB
      refine k_iload (pc1 := 22) dX6_fits_20 rfl rfl ?_
      refine k_aload_n (pc1 := 23) dX6_fits_22 rfl rfl ?_
      refine k_get (pc1 := 26) dX6_fits_23 rfl fd_RX6_7 hM.1 (v := .ref g) rfl ?_
      refine k_iconst (pc1 := 27) dX6_fits_26 rfl ?_
      refine k_iald (i := 1) (f := f) (pc1 := 28) dX6_fits_27 rfl hM.2.1 (N := 380) (by omega) (by omega) (by decide) (k_val (v' := .int (iI (f 1))) rfl ?_)
      refine k_icmp_ge (a := m) (b := (f 1)) dX6_fits_28 rfl (tgt := 162) rfl (by omega) (by omega) (fun c28 : (f 1) ≤ m => ?_) (fun c28 : m < (f 1) => ?_)
      · skip
        refine k_iconst (pc1 := 163) dX6_fits_162 rfl ?_
        exact k_iret dX6_fits_163 rfl rfl (kret (kB_t ⟨by omega, fun m' d' z => alI_e hB (by omega) m' d' z⟩).symm _)
      · skip
        have hm := kWf_m hW hm0 c28
        refine k_iconst (pc1 := 32) dX6_fits_31 rfl ?_
        refine k_istore (pc1 := 34) dX6_fits_32 rfl (by decide) (k_loc (L' := [some (.ref o), some (.int (iI rm)), some (.int (iI ((q : Nat) : Int))), some (.int (iI k)), some (.int (iI t)), some (.int (iI n)), some (.int (iI m)), some (.int (iI 0)), none, none]) rfl ?_)
        have hloop34 : ∀ (zz : Nat) (dt : Int), zz = (oF f m 3 - dt).toNat → (0 ≤ dt) → (dt ≤ oF f m 3) → (alI f (fbP f wm wd rm q k t n) m dt) → kW l G m_X6_fits 5 (kPq (.int (iI (kB (fitF f wm wd rm q k t n)))) h) kNo 0 0 34 [some (.ref o), some (.int (iI rm)), some (.int (iI ((q : Nat) : Int))), some (.int (iI k)), some (.int (iI t)), some (.int (iI n)), some (.int (iI m)), some (.int (iI dt)), none, none] [] h := by
          intro zz
          induction zz using Nat.strongRecOn with
          | ind zz ih34 =>
          intro dt hr34 hd0 hd1 hB
          refine k_iload (pc1 := 36) dX6_fits_34 rfl rfl ?_
          refine k_aload_n (pc1 := 37) dX6_fits_36 rfl rfl ?_
          refine k_iload (pc1 := 39) dX6_fits_37 rfl rfl ?_
          refine k_iconst (pc1 := 40) dX6_fits_39 rfl ?_
          refine k_callVP dX6_fits_40 rfl lk_RX6_37 o_X6_of (w_X6_of hl hM m 3 (by omega) (by omega)) (as := [.int (iI m), .int (iI 3)]) hM.1 rfl rfl rfl rfl (by decide) (by decide) (k8 rfl) ?_
          refine k_icmp_ge (a := dt) (b := (oF f m 3)) dX6_fits_43 rfl (tgt := 156) rfl (by omega) (by omega) (fun c43 : (oF f m 3) ≤ dt => ?_) (fun c43 : dt < (oF f m 3) => ?_)
          · skip
            refine k_iinc (a := m) (pc1 := 159) dX6_fits_156 rfl rfl (by decide) (k_loc (L' := [some (.ref o), some (.int (iI rm)), some (.int (iI ((q : Nat) : Int))), some (.int (iI k)), some (.int (iI t)), some (.int (iI n)), some (.int (iI (m + 1))), some (.int (iI dt)), none, none]) rfl ?_)
            refine k_goto dX6_fits_159 (tgt := 20) rfl ?_
            refine k_forget 7 (k_loc (L' := [some (.ref o), some (.int (iI rm)), some (.int (iI ((q : Nat) : Int))), some (.int (iI k)), some (.int (iI t)), some (.int (iI n)), some (.int (iI (m + 1))), none, none, none]) rfl ?_)
            exact ih20 _ (by omega) (m + 1) rfl (by omega) (by omega) (alI_n hB hm0 (by omega))
          · skip
            have hi : inP f m dt := ⟨hm0, c28, hd0, c43⟩
            have hbr := btF_r hW hi ht hn
            have hdd := kWf_d hW hm0 c28 hd0 c43
            refine k_aload_n (pc1 := 47) dX6_fits_46 rfl rfl ?_
            refine k_iload (pc1 := 49) dX6_fits_47 rfl rfl ?_
            refine k_iload (pc1 := 51) dX6_fits_49 rfl rfl ?_
            refine k_iload_n (pc1 := 52) dX6_fits_51 rfl rfl ?_
            refine k_callVP dX6_fits_52 rfl lk_RX6_52 o_X6_counts (w_X6_counts hl hM m dt k hW ⟨by omega, by omega, by omega, by omega⟩ hwm hwd (by omega)) (as := [.int (iI m), .int (iI dt), .int (iI k)]) hM.1 rfl rfl rfl rfl (by decide) (by decide) (k8 rfl) ?_
            refine k_if_ne (a := kB (ctF f wm wd m dt k)) dX6_fits_55 rfl (tgt := 61) rfl (kB_r _) (fun c55 : kB (ctF f wm wd m dt k) ≠ 0 => ?_) (fun c55 : kB (ctF f wm wd m dt k) = 0 => ?_)
            · replace c55 : (ctF f wm wd m dt k) := kB_nz.mp c55
              refine k_aload_n (pc1 := 62) dX6_fits_61 rfl rfl ?_
              refine k_iload (pc1 := 64) dX6_fits_62 rfl rfl ?_
              refine k_iload (pc1 := 66) dX6_fits_64 rfl rfl ?_
              refine k_iconst (pc1 := 67) dX6_fits_66 rfl ?_
              refine k_callVP dX6_fits_67 rfl lk_RX6_45 o_X6_date (w_X6_date hl hM m dt 3 (by omega) (by omega)) (as := [.int (iI m), .int (iI dt), .int (iI 3)]) hM.1 rfl rfl rfl rfl (by decide) (by decide) (k8 rfl) ?_
              refine k_istore (pc1 := 72) dX6_fits_70 rfl (by decide) (k_loc (L' := [some (.ref o), some (.int (iI rm)), some (.int (iI ((q : Nat) : Int))), some (.int (iI k)), some (.int (iI t)), some (.int (iI n)), some (.int (iI m)), some (.int (iI dt)), some (.int (iI (dF f m dt 3))), none]) rfl ?_)
              refine k_aload_n (pc1 := 73) dX6_fits_72 rfl rfl ?_
              refine k_iload (pc1 := 75) dX6_fits_73 rfl rfl ?_
              refine k_iload (pc1 := 77) dX6_fits_75 rfl rfl ?_
              refine k_iload (pc1 := 79) dX6_fits_77 rfl rfl ?_
              refine k_iload (pc1 := 81) dX6_fits_79 rfl rfl ?_
              refine k_callVP dX6_fits_81 rfl lk_RX6_55 o_X6_between (w_X6_between hl hM m dt t n hW ⟨by omega, by omega, by omega, by omega⟩ ⟨by omega, by omega⟩ ⟨by omega, by omega⟩) (as := [.int (iI m), .int (iI dt), .int (iI t), .int (iI n)]) hM.1 rfl rfl rfl rfl (by decide) (by decide) (k8 rfl) ?_
              refine k_istore (pc1 := 86) dX6_fits_84 rfl (by decide) (k_loc (L' := [some (.ref o), some (.int (iI rm)), some (.int (iI ((q : Nat) : Int))), some (.int (iI k)), some (.int (iI t)), some (.int (iI n)), some (.int (iI m)), some (.int (iI dt)), some (.int (iI (dF f m dt 3))), some (.int (iI (btF f m dt t n)))]) rfl ?_)
              refine k_iload (pc1 := 88) dX6_fits_86 rfl rfl ?_
              refine k_iload_n (pc1 := 89) dX6_fits_88 rfl rfl ?_
              refine k_icmp_ne (a := (dF f m dt 3)) (b := rm) dX6_fits_89 rfl (tgt := 99) rfl (by omega) (by omega) (fun c89 : (dF f m dt 3) ≠ rm => ?_) (fun c89 : (dF f m dt 3) = rm => ?_)
              · skip
                refine k_aload_n (pc1 := 100) dX6_fits_99 rfl rfl ?_
                refine k_iload (pc1 := 102) dX6_fits_100 rfl rfl ?_
                refine k_callVP dX6_fits_102 rfl lk_RX6_59 o_X6_people (w_X6_people hl hM m hW (by omega) (by omega)) (as := [.int (iI m)]) hM.1 rfl rfl rfl rfl (by decide) (by decide) (k8 rfl) ?_
                refine k_iload_n (pc1 := 106) dX6_fits_105 rfl rfl ?_
                refine k_iand (pc1 := 107) dX6_fits_106 rfl (k_val (v' := .int (iI (((kan (ppF f m) q) : Nat) : Int))) (congrArg Value.int iI_and) ?_)
                have hpl := ppF_lt f m
                have hpq : kan (ppF f m) q < 64 := kan_lt hpl
                refine k_if_eq (a := (((kan (ppF f m) q) : Nat) : Int)) dX6_fits_107 rfl (tgt := 150) rfl (by omega) (fun c107 : (((kan (ppF f m) q) : Nat) : Int) = 0 => ?_) (fun c107 : (((kan (ppF f m) q) : Nat) : Int) ≠ 0 => ?_)
                · skip
                  refine k_iinc (a := dt) (pc1 := 153) dX6_fits_150 rfl rfl (by decide) (k_loc (L' := [some (.ref o), some (.int (iI rm)), some (.int (iI ((q : Nat) : Int))), some (.int (iI k)), some (.int (iI t)), some (.int (iI n)), some (.int (iI m)), some (.int (iI (dt + 1))), some (.int (iI (dF f m dt 3))), some (.int (iI (btF f m dt t n)))]) rfl ?_)
                  refine k_goto dX6_fits_153 (tgt := 34) rfl ?_
                  refine k_forget 8 (k_loc (L' := [some (.ref o), some (.int (iI rm)), some (.int (iI ((q : Nat) : Int))), some (.int (iI k)), some (.int (iI t)), some (.int (iI n)), some (.int (iI m)), some (.int (iI (dt + 1))), none, some (.int (iI (btF f m dt t n)))]) rfl ?_)
                  refine k_forget 9 (k_loc (L' := [some (.ref o), some (.int (iI rm)), some (.int (iI ((q : Nat) : Int))), some (.int (iI k)), some (.int (iI t)), some (.int (iI n)), some (.int (iI m)), some (.int (iI (dt + 1))), none, none]) rfl ?_)
                  exact ih34 _ (by omega) (dt + 1) rfl (by omega) (by omega) (alI_s hB hd0 (fun z => by first | exact c55 z.1 | (rcases z.2 with ⟨z1, z2⟩ | ⟨z3, z4⟩; (first | exact c89 z1 | omega); (first | exact ppF_and.mpr z3 c107 | (rcases z4 with z4 | ⟨z5, z6⟩; omega; first | exact z5 c134 | omega)))))
                · skip
                  refine k_iload (pc1 := 112) dX6_fits_110 rfl rfl ?_
                  refine k_if_lt (a := (btF f m dt t n)) dX6_fits_112 rfl (tgt := 148) rfl (by omega) (fun c112 : (btF f m dt t n) < 0 => ?_) (fun c112 : ¬ (btF f m dt t n) < 0 => ?_)
                  · skip
                    refine k_iconst (pc1 := 149) dX6_fits_148 rfl ?_
                    exact k_iret dX6_fits_149 rfl rfl (kret (kB_f (fun z => z.2 m dt hi ⟨c55, Or.inr ⟨ppF_and.mp c107, by first | exact Or.inl c112 | exact Or.inr ⟨c134, c145⟩⟩⟩)).symm _)
                  · skip
                    have hr5 := kWf_room hW (r := dF f m dt 3) (by omega) (by omega)
                    refine k_aload_n (pc1 := 116) dX6_fits_115 rfl rfl ?_
                    refine k_get (pc1 := 119) dX6_fits_116 rfl fd_RX6_7 hM.1 (v := .ref g) rfl ?_
                    refine k_bipush 9 (pc1 := 121) dX6_fits_119 rfl (by decide) ?_
                    refine k_iload (pc1 := 123) dX6_fits_121 rfl rfl ?_
                    refine k_iadd (a := 9) (b := (dF f m dt 3)) (pc1 := 124) dX6_fits_123 rfl ?_
                    refine k_iald (i := (9 + (dF f m dt 3))) (f := f) (pc1 := 125) dX6_fits_124 rfl hM.2.1 (N := 380) (by omega) (by omega) (by decide) (k_val (v' := .int (iI (f (9 + (dF f m dt 3)).toNat))) rfl ?_)
                    refine k_aload_n (pc1 := 126) dX6_fits_125 rfl rfl ?_
                    refine k_get (pc1 := 129) dX6_fits_126 rfl fd_RX6_7 hM.1 (v := .ref g) rfl ?_
                    refine k_bipush 9 (pc1 := 131) dX6_fits_129 rfl (by decide) ?_
                    refine k_iload_n (pc1 := 132) dX6_fits_131 rfl rfl ?_
                    refine k_iadd (a := 9) (b := rm) (pc1 := 133) dX6_fits_132 rfl ?_
                    refine k_iald (i := (9 + rm)) (f := f) (pc1 := 134) dX6_fits_133 rfl hM.2.1 (N := 380) (by omega) (by omega) (by decide) (k_val (v' := .int (iI (f (9 + rm).toNat))) rfl ?_)
                    refine k_icmp_eq (a := (f (9 + (dF f m dt 3)).toNat)) (b := (f (9 + rm).toNat)) dX6_fits_134 rfl (tgt := 150) rfl (by omega) (by omega) (fun c134 : (f (9 + (dF f m dt 3)).toNat) = (f (9 + rm).toNat) => ?_) (fun c134 : (f (9 + (dF f m dt 3)).toNat) ≠ (f (9 + rm).toNat) => ?_)
                    · skip
                      refine k_iinc (a := dt) (pc1 := 153) dX6_fits_150 rfl rfl (by decide) (k_loc (L' := [some (.ref o), some (.int (iI rm)), some (.int (iI ((q : Nat) : Int))), some (.int (iI k)), some (.int (iI t)), some (.int (iI n)), some (.int (iI m)), some (.int (iI (dt + 1))), some (.int (iI (dF f m dt 3))), some (.int (iI (btF f m dt t n)))]) rfl ?_)
                      refine k_goto dX6_fits_153 (tgt := 34) rfl ?_
                      refine k_forget 8 (k_loc (L' := [some (.ref o), some (.int (iI rm)), some (.int (iI ((q : Nat) : Int))), some (.int (iI k)), some (.int (iI t)), some (.int (iI n)), some (.int (iI m)), some (.int (iI (dt + 1))), none, some (.int (iI (btF f m dt t n)))]) rfl ?_)
                      refine k_forget 9 (k_loc (L' := [some (.ref o), some (.int (iI rm)), some (.int (iI ((q : Nat) : Int))), some (.int (iI k)), some (.int (iI t)), some (.int (iI n)), some (.int (iI m)), some (.int (iI (dt + 1))), none, none]) rfl ?_)
                      exact ih34 _ (by omega) (dt + 1) rfl (by omega) (by omega) (alI_s hB hd0 (fun z => by first | exact c55 z.1 | (rcases z.2 with ⟨z1, z2⟩ | ⟨z3, z4⟩; (first | exact c89 z1 | omega); (first | exact ppF_and.mpr z3 c107 | (rcases z4 with z4 | ⟨z5, z6⟩; omega; first | exact z5 c134 | omega)))))
                    · skip
                      refine k_iload (pc1 := 139) dX6_fits_137 rfl rfl ?_
                      refine k_aload_n (pc1 := 140) dX6_fits_139 rfl rfl ?_
                      refine k_get (pc1 := 143) dX6_fits_140 rfl fd_RX6_7 hM.1 (v := .ref g) rfl ?_
                      refine k_iconst (pc1 := 144) dX6_fits_143 rfl ?_
                      refine k_iald (i := 0) (f := f) (pc1 := 145) dX6_fits_144 rfl hM.2.1 (N := 380) (by omega) (by omega) (by decide) (k_val (v' := .int (iI (f 0))) rfl ?_)
                      refine k_icmp_ge (a := (btF f m dt t n)) (b := (f 0)) dX6_fits_145 rfl (tgt := 150) rfl (by omega) (by omega) (fun c145 : (f 0) ≤ (btF f m dt t n) => ?_) (fun c145 : (btF f m dt t n) < (f 0) => ?_)
                      · skip
                        refine k_iinc (a := dt) (pc1 := 153) dX6_fits_150 rfl rfl (by decide) (k_loc (L' := [some (.ref o), some (.int (iI rm)), some (.int (iI ((q : Nat) : Int))), some (.int (iI k)), some (.int (iI t)), some (.int (iI n)), some (.int (iI m)), some (.int (iI (dt + 1))), some (.int (iI (dF f m dt 3))), some (.int (iI (btF f m dt t n)))]) rfl ?_)
                        refine k_goto dX6_fits_153 (tgt := 34) rfl ?_
                        refine k_forget 8 (k_loc (L' := [some (.ref o), some (.int (iI rm)), some (.int (iI ((q : Nat) : Int))), some (.int (iI k)), some (.int (iI t)), some (.int (iI n)), some (.int (iI m)), some (.int (iI (dt + 1))), none, some (.int (iI (btF f m dt t n)))]) rfl ?_)
                        refine k_forget 9 (k_loc (L' := [some (.ref o), some (.int (iI rm)), some (.int (iI ((q : Nat) : Int))), some (.int (iI k)), some (.int (iI t)), some (.int (iI n)), some (.int (iI m)), some (.int (iI (dt + 1))), none, none]) rfl ?_)
                        exact ih34 _ (by omega) (dt + 1) rfl (by omega) (by omega) (alI_s hB hd0 (fun z => by first | exact c55 z.1 | (rcases z.2 with ⟨z1, z2⟩ | ⟨z3, z4⟩; (first | exact c89 z1 | omega); (first | exact ppF_and.mpr z3 c107 | (rcases z4 with z4 | ⟨z5, z6⟩; omega; first | exact z5 c134 | omega)))))
                      · skip
                        refine k_iconst (pc1 := 149) dX6_fits_148 rfl ?_
                        exact k_iret dX6_fits_149 rfl rfl (kret (kB_f (fun z => z.2 m dt hi ⟨c55, Or.inr ⟨ppF_and.mp c107, by first | exact Or.inl c112 | exact Or.inr ⟨c134, c145⟩⟩⟩)).symm _)
              · skip
                refine k_iload (pc1 := 94) dX6_fits_92 rfl rfl ?_
                refine k_if_ge (a := (btF f m dt t n)) dX6_fits_94 rfl (tgt := 99) rfl (by omega) (fun c94 : 0 ≤ (btF f m dt t n) => ?_) (fun c94 : (btF f m dt t n) < 0 => ?_)
                · skip
                  refine k_aload_n (pc1 := 100) dX6_fits_99 rfl rfl ?_
                  refine k_iload (pc1 := 102) dX6_fits_100 rfl rfl ?_
                  refine k_callVP dX6_fits_102 rfl lk_RX6_59 o_X6_people (w_X6_people hl hM m hW (by omega) (by omega)) (as := [.int (iI m)]) hM.1 rfl rfl rfl rfl (by decide) (by decide) (k8 rfl) ?_
                  refine k_iload_n (pc1 := 106) dX6_fits_105 rfl rfl ?_
                  refine k_iand (pc1 := 107) dX6_fits_106 rfl (k_val (v' := .int (iI (((kan (ppF f m) q) : Nat) : Int))) (congrArg Value.int iI_and) ?_)
                  have hpl := ppF_lt f m
                  have hpq : kan (ppF f m) q < 64 := kan_lt hpl
                  refine k_if_eq (a := (((kan (ppF f m) q) : Nat) : Int)) dX6_fits_107 rfl (tgt := 150) rfl (by omega) (fun c107 : (((kan (ppF f m) q) : Nat) : Int) = 0 => ?_) (fun c107 : (((kan (ppF f m) q) : Nat) : Int) ≠ 0 => ?_)
                  · skip
                    refine k_iinc (a := dt) (pc1 := 153) dX6_fits_150 rfl rfl (by decide) (k_loc (L' := [some (.ref o), some (.int (iI rm)), some (.int (iI ((q : Nat) : Int))), some (.int (iI k)), some (.int (iI t)), some (.int (iI n)), some (.int (iI m)), some (.int (iI (dt + 1))), some (.int (iI (dF f m dt 3))), some (.int (iI (btF f m dt t n)))]) rfl ?_)
                    refine k_goto dX6_fits_153 (tgt := 34) rfl ?_
                    refine k_forget 8 (k_loc (L' := [some (.ref o), some (.int (iI rm)), some (.int (iI ((q : Nat) : Int))), some (.int (iI k)), some (.int (iI t)), some (.int (iI n)), some (.int (iI m)), some (.int (iI (dt + 1))), none, some (.int (iI (btF f m dt t n)))]) rfl ?_)
                    refine k_forget 9 (k_loc (L' := [some (.ref o), some (.int (iI rm)), some (.int (iI ((q : Nat) : Int))), some (.int (iI k)), some (.int (iI t)), some (.int (iI n)), some (.int (iI m)), some (.int (iI (dt + 1))), none, none]) rfl ?_)
                    exact ih34 _ (by omega) (dt + 1) rfl (by omega) (by omega) (alI_s hB hd0 (fun z => by first | exact c55 z.1 | (rcases z.2 with ⟨z1, z2⟩ | ⟨z3, z4⟩; (first | exact c89 z1 | omega); (first | exact ppF_and.mpr z3 c107 | (rcases z4 with z4 | ⟨z5, z6⟩; omega; first | exact z5 c134 | omega)))))
                  · skip
                    refine k_iload (pc1 := 112) dX6_fits_110 rfl rfl ?_
                    refine k_if_lt (a := (btF f m dt t n)) dX6_fits_112 rfl (tgt := 148) rfl (by omega) (fun c112 : (btF f m dt t n) < 0 => ?_) (fun c112 : ¬ (btF f m dt t n) < 0 => ?_)
                    · skip
                      refine k_iconst (pc1 := 149) dX6_fits_148 rfl ?_
                      exact k_iret dX6_fits_149 rfl rfl (kret (kB_f (fun z => z.2 m dt hi ⟨c55, Or.inr ⟨ppF_and.mp c107, by first | exact Or.inl c112 | exact Or.inr ⟨c134, c145⟩⟩⟩)).symm _)
                    · skip
                      have hr5 := kWf_room hW (r := dF f m dt 3) (by omega) (by omega)
                      refine k_aload_n (pc1 := 116) dX6_fits_115 rfl rfl ?_
                      refine k_get (pc1 := 119) dX6_fits_116 rfl fd_RX6_7 hM.1 (v := .ref g) rfl ?_
                      refine k_bipush 9 (pc1 := 121) dX6_fits_119 rfl (by decide) ?_
                      refine k_iload (pc1 := 123) dX6_fits_121 rfl rfl ?_
                      refine k_iadd (a := 9) (b := (dF f m dt 3)) (pc1 := 124) dX6_fits_123 rfl ?_
                      refine k_iald (i := (9 + (dF f m dt 3))) (f := f) (pc1 := 125) dX6_fits_124 rfl hM.2.1 (N := 380) (by omega) (by omega) (by decide) (k_val (v' := .int (iI (f (9 + (dF f m dt 3)).toNat))) rfl ?_)
                      refine k_aload_n (pc1 := 126) dX6_fits_125 rfl rfl ?_
                      refine k_get (pc1 := 129) dX6_fits_126 rfl fd_RX6_7 hM.1 (v := .ref g) rfl ?_
                      refine k_bipush 9 (pc1 := 131) dX6_fits_129 rfl (by decide) ?_
                      refine k_iload_n (pc1 := 132) dX6_fits_131 rfl rfl ?_
                      refine k_iadd (a := 9) (b := rm) (pc1 := 133) dX6_fits_132 rfl ?_
                      refine k_iald (i := (9 + rm)) (f := f) (pc1 := 134) dX6_fits_133 rfl hM.2.1 (N := 380) (by omega) (by omega) (by decide) (k_val (v' := .int (iI (f (9 + rm).toNat))) rfl ?_)
                      refine k_icmp_eq (a := (f (9 + (dF f m dt 3)).toNat)) (b := (f (9 + rm).toNat)) dX6_fits_134 rfl (tgt := 150) rfl (by omega) (by omega) (fun c134 : (f (9 + (dF f m dt 3)).toNat) = (f (9 + rm).toNat) => ?_) (fun c134 : (f (9 + (dF f m dt 3)).toNat) ≠ (f (9 + rm).toNat) => ?_)
                      · skip
                        refine k_iinc (a := dt) (pc1 := 153) dX6_fits_150 rfl rfl (by decide) (k_loc (L' := [some (.ref o), some (.int (iI rm)), some (.int (iI ((q : Nat) : Int))), some (.int (iI k)), some (.int (iI t)), some (.int (iI n)), some (.int (iI m)), some (.int (iI (dt + 1))), some (.int (iI (dF f m dt 3))), some (.int (iI (btF f m dt t n)))]) rfl ?_)
                        refine k_goto dX6_fits_153 (tgt := 34) rfl ?_
                        refine k_forget 8 (k_loc (L' := [some (.ref o), some (.int (iI rm)), some (.int (iI ((q : Nat) : Int))), some (.int (iI k)), some (.int (iI t)), some (.int (iI n)), some (.int (iI m)), some (.int (iI (dt + 1))), none, some (.int (iI (btF f m dt t n)))]) rfl ?_)
                        refine k_forget 9 (k_loc (L' := [some (.ref o), some (.int (iI rm)), some (.int (iI ((q : Nat) : Int))), some (.int (iI k)), some (.int (iI t)), some (.int (iI n)), some (.int (iI m)), some (.int (iI (dt + 1))), none, none]) rfl ?_)
                        exact ih34 _ (by omega) (dt + 1) rfl (by omega) (by omega) (alI_s hB hd0 (fun z => by first | exact c55 z.1 | (rcases z.2 with ⟨z1, z2⟩ | ⟨z3, z4⟩; (first | exact c89 z1 | omega); (first | exact ppF_and.mpr z3 c107 | (rcases z4 with z4 | ⟨z5, z6⟩; omega; first | exact z5 c134 | omega)))))
                      · skip
                        refine k_iload (pc1 := 139) dX6_fits_137 rfl rfl ?_
                        refine k_aload_n (pc1 := 140) dX6_fits_139 rfl rfl ?_
                        refine k_get (pc1 := 143) dX6_fits_140 rfl fd_RX6_7 hM.1 (v := .ref g) rfl ?_
                        refine k_iconst (pc1 := 144) dX6_fits_143 rfl ?_
                        refine k_iald (i := 0) (f := f) (pc1 := 145) dX6_fits_144 rfl hM.2.1 (N := 380) (by omega) (by omega) (by decide) (k_val (v' := .int (iI (f 0))) rfl ?_)
                        refine k_icmp_ge (a := (btF f m dt t n)) (b := (f 0)) dX6_fits_145 rfl (tgt := 150) rfl (by omega) (by omega) (fun c145 : (f 0) ≤ (btF f m dt t n) => ?_) (fun c145 : (btF f m dt t n) < (f 0) => ?_)
                        · skip
                          refine k_iinc (a := dt) (pc1 := 153) dX6_fits_150 rfl rfl (by decide) (k_loc (L' := [some (.ref o), some (.int (iI rm)), some (.int (iI ((q : Nat) : Int))), some (.int (iI k)), some (.int (iI t)), some (.int (iI n)), some (.int (iI m)), some (.int (iI (dt + 1))), some (.int (iI (dF f m dt 3))), some (.int (iI (btF f m dt t n)))]) rfl ?_)
                          refine k_goto dX6_fits_153 (tgt := 34) rfl ?_
                          refine k_forget 8 (k_loc (L' := [some (.ref o), some (.int (iI rm)), some (.int (iI ((q : Nat) : Int))), some (.int (iI k)), some (.int (iI t)), some (.int (iI n)), some (.int (iI m)), some (.int (iI (dt + 1))), none, some (.int (iI (btF f m dt t n)))]) rfl ?_)
                          refine k_forget 9 (k_loc (L' := [some (.ref o), some (.int (iI rm)), some (.int (iI ((q : Nat) : Int))), some (.int (iI k)), some (.int (iI t)), some (.int (iI n)), some (.int (iI m)), some (.int (iI (dt + 1))), none, none]) rfl ?_)
                          exact ih34 _ (by omega) (dt + 1) rfl (by omega) (by omega) (alI_s hB hd0 (fun z => by first | exact c55 z.1 | (rcases z.2 with ⟨z1, z2⟩ | ⟨z3, z4⟩; (first | exact c89 z1 | omega); (first | exact ppF_and.mpr z3 c107 | (rcases z4 with z4 | ⟨z5, z6⟩; omega; first | exact z5 c134 | omega)))))
                        · skip
                          refine k_iconst (pc1 := 149) dX6_fits_148 rfl ?_
                          exact k_iret dX6_fits_149 rfl rfl (kret (kB_f (fun z => z.2 m dt hi ⟨c55, Or.inr ⟨ppF_and.mp c107, by first | exact Or.inl c112 | exact Or.inr ⟨c134, c145⟩⟩⟩)).symm _)
                · skip
                  refine k_iconst (pc1 := 98) dX6_fits_97 rfl ?_
                  exact k_iret dX6_fits_98 rfl rfl (kret (kB_f (fun z => z.2 m dt hi ⟨c55, Or.inl ⟨c89, c94⟩⟩)).symm _)
            · replace c55 : ¬(ctF f wm wd m dt k) := kB_z.mp c55
              refine k_goto dX6_fits_58 (tgt := 150) rfl ?_
              refine k_iinc (a := dt) (pc1 := 153) dX6_fits_150 rfl rfl (by decide) (k_loc (L' := [some (.ref o), some (.int (iI rm)), some (.int (iI ((q : Nat) : Int))), some (.int (iI k)), some (.int (iI t)), some (.int (iI n)), some (.int (iI m)), some (.int (iI (dt + 1))), none, none]) rfl ?_)
              refine k_goto dX6_fits_153 (tgt := 34) rfl ?_
              exact ih34 _ (by omega) (dt + 1) rfl (by omega) (by omega) (alI_s hB hd0 (fun z => by first | exact c55 z.1 | (rcases z.2 with ⟨z1, z2⟩ | ⟨z3, z4⟩; (first | exact c89 z1 | omega); (first | exact ppF_and.mpr z3 c107 | (rcases z4 with z4 | ⟨z5, z6⟩; omega; first | exact z5 c134 | omega)))))
        exact hloop34 _ 0 rfl (by omega) (by omega) hB
    exact hloop20 _ 0 rfl (by omega) (by omega) alI_0
  · skip
    refine k_iconst (pc1 := 16) dX6_fits_15 rfl ?_
    exact k_iret dX6_fits_16 rfl rfl (kret (kB_f (fun z => absurd z.1 (by omega))).symm _)
theorem w_X6_smallest {l : Launch} {G : kG} {h : kAH} {o g r : Nat} {c wm wd : Int} {f : Nat → Int} (hl : l.stackTraces = false) (hM : kMd G h o g r c wm wd f) (q : Nat) (k t n : Int) (hq : q < 64) (hW : kWf f) (hwm : -1 ≤ wm ∧ wm < 8) (hwd : -1 ≤ wd ∧ wd < 6) (hk : 0 ≤ k ∧ k < 28) (ht : 0 ≤ t ∧ t < 16) (hn : 1 ≤ n ∧ n ≤ 6)  : kP l G m_X6_smallest 6 [.ref o, .int (iI ((q : Nat) : Int)), .int (iI k), .int (iI t), .int (iI n)] h (.int (iI (smlF f wm wd q k t n))) := by
  have h8 := kWf_cnt hW
  refine kC_of hl rfl rfl (Nat.le_of_ble_eq_true rfl) (L := [some (.ref o), some (.int (iI ((q : Nat) : Int))), some (.int (iI k)), some (.int (iI t)), some (.int (iI n)), none, none]) rfl ?_
  refine k_iconst (pc1 := 1) dX6_smallest_0 rfl ?_
  refine k_istore (pc1 := 3) dX6_smallest_1 rfl (by decide) (k_loc (L' := [some (.ref o), some (.int (iI ((q : Nat) : Int))), some (.int (iI k)), some (.int (iI t)), some (.int (iI n)), some (.int (iI (-1))), none]) rfl ?_)
  refine k_iconst (pc1 := 4) dX6_smallest_3 rfl ?_
  refine k_istore (pc1 := 6) dX6_smallest_4 rfl (by decide) (k_loc (L' := [some (.ref o), some (.int (iI ((q : Nat) : Int))), some (.int (iI k)), some (.int (iI t)), some (.int (iI n)), some (.int (iI (-1))), some (.int (iI 0))]) rfl ?_)
  have hloop6 : ∀ (zz : Nat) (i : Nat), zz = 4 - i → (i ≤ 4) → kW l G m_X6_smallest 6 (kPq (.int (iI (smlF f wm wd q k t n))) h) kNo 0 0 6 [some (.ref o), some (.int (iI ((q : Nat) : Int))), some (.int (iI k)), some (.int (iI t)), some (.int (iI n)), some (.int (iI (sml f (fun rm => fitF f wm wd rm q k t n) i))), some (.int (iI ((i : Nat) : Int)))] [] h := by
    intro zz
    induction zz using Nat.strongRecOn with
    | ind zz ih6 =>
    intro i hr6 hi
    refine k_iload (pc1 := 8) dX6_smallest_6 rfl rfl ?_
    refine k_iconst (pc1 := 9) dX6_smallest_8 rfl ?_
    refine k_icmp_ge (a := ((i : Nat) : Int)) (b := 4) dX6_smallest_9 rfl (tgt := 62) rfl (by omega) (by decide) (fun c9 : 4 ≤ ((i : Nat) : Int) => ?_) (fun c9 : ((i : Nat) : Int) < 4 => ?_)
    · skip
      refine k_iload (pc1 := 64) dX6_smallest_62 rfl rfl ?_
      have e : i = 4 := by omega
      subst e
      exact k_iret dX6_smallest_64 rfl rfl (kret rfl _)
    · skip
      refine k_aload_n (pc1 := 13) dX6_smallest_12 rfl rfl ?_
      refine k_iload (pc1 := 15) dX6_smallest_13 rfl rfl ?_
      refine k_iload_n (pc1 := 16) dX6_smallest_15 rfl rfl ?_
      refine k_iload_n (pc1 := 17) dX6_smallest_16 rfl rfl ?_
      refine k_iload_n (pc1 := 18) dX6_smallest_17 rfl rfl ?_
      refine k_iload (pc1 := 20) dX6_smallest_18 rfl rfl ?_
      refine k_callVP dX6_smallest_20 rfl lk_RX6_66 o_X6_fits (w_X6_fits hl hM ((i : Nat) : Int) q k t n ⟨by omega, by omega⟩ (by first | omega | exact kmk_lt _ _ | assumption) hW hwm hwd ⟨by omega, by omega⟩ ⟨by omega, by omega⟩ ⟨by omega, by omega⟩ ) (as := [.int (iI ((i : Nat) : Int)), .int (iI ((q : Nat) : Int)), .int (iI k), .int (iI t), .int (iI n)]) hM.1 rfl rfl rfl rfl (by decide) (by decide) (k8 rfl) ?_
      refine k_if_eq (a := kB (fitF f wm wd ((i : Nat) : Int) q k t n)) dX6_smallest_23 rfl (tgt := 56) rfl (kB_r _) (fun c23 : kB (fitF f wm wd ((i : Nat) : Int) q k t n) = 0 => ?_) (fun c23 : kB (fitF f wm wd ((i : Nat) : Int) q k t n) ≠ 0 => ?_)
      · replace c23 : ¬(fitF f wm wd ((i : Nat) : Int) q k t n) := kB_z.mp c23
        refine k_iinc (a := ((i : Nat) : Int)) (pc1 := 59) dX6_smallest_56 rfl rfl (by decide) (k_loc (L' := [some (.ref o), some (.int (iI ((q : Nat) : Int))), some (.int (iI k)), some (.int (iI t)), some (.int (iI n)), some (.int (iI (sml f (fun rm => fitF f wm wd rm q k t n) i))), some (.int (iI (((i : Nat) : Int) + 1)))]) rfl ?_)
        refine k_goto dX6_smallest_59 (tgt := 6) rfl ?_
        have e : (sml f (fun rm => fitF f wm wd rm q k t n) (i + 1)) = (sml f (fun rm => fitF f wm wd rm q k t n) i) := kI_f (by rintro ⟨z1, z2⟩; first | exact c23 z1 | omega)
        refine k_loc (L' := [some (.ref o), some (.int (iI ((q : Nat) : Int))), some (.int (iI k)), some (.int (iI t)), some (.int (iI n)), some (.int (iI (sml f (fun rm => fitF f wm wd rm q k t n) (i + 1)))), some (.int (iI (((i : Nat) : Int) + 1)))]) (by rw [e]) ?_
        exact ih6 _ (by omega) (i + 1) rfl (by omega)
      · replace c23 : (fitF f wm wd ((i : Nat) : Int) q k t n) := kB_nz.mp c23
        have hsr := sml_r f (fun rm => fitF f wm wd rm q k t n) i
        refine k_iload (pc1 := 28) dX6_smallest_26 rfl rfl ?_
        refine k_if_lt (a := (sml f (fun rm => fitF f wm wd rm q k t n) i)) dX6_smallest_28 rfl (tgt := 52) rfl (by omega) (fun c28 : (sml f (fun rm => fitF f wm wd rm q k t n) i) < 0 => ?_) (fun c28 : ¬ (sml f (fun rm => fitF f wm wd rm q k t n) i) < 0 => ?_)
        · skip
          refine k_iload (pc1 := 54) dX6_smallest_52 rfl rfl ?_
          refine k_istore (pc1 := 56) dX6_smallest_54 rfl (by decide) (k_loc (L' := [some (.ref o), some (.int (iI ((q : Nat) : Int))), some (.int (iI k)), some (.int (iI t)), some (.int (iI n)), some (.int (iI ((i : Nat) : Int))), some (.int (iI ((i : Nat) : Int)))]) rfl ?_)
          refine k_iinc (a := ((i : Nat) : Int)) (pc1 := 59) dX6_smallest_56 rfl rfl (by decide) (k_loc (L' := [some (.ref o), some (.int (iI ((q : Nat) : Int))), some (.int (iI k)), some (.int (iI t)), some (.int (iI n)), some (.int (iI ((i : Nat) : Int))), some (.int (iI (((i : Nat) : Int) + 1)))]) rfl ?_)
          refine k_goto dX6_smallest_59 (tgt := 6) rfl ?_
          have e : (sml f (fun rm => fitF f wm wd rm q k t n) (i + 1)) = ((i : Nat) : Int) := kI_t ⟨c23, by omega⟩
          refine k_loc (L' := [some (.ref o), some (.int (iI ((q : Nat) : Int))), some (.int (iI k)), some (.int (iI t)), some (.int (iI n)), some (.int (iI (sml f (fun rm => fitF f wm wd rm q k t n) (i + 1)))), some (.int (iI (((i : Nat) : Int) + 1)))]) (by rw [e]) ?_
          exact ih6 _ (by omega) (i + 1) rfl (by omega)
        · skip
          have hr1 := kWf_room hW (r := ((i : Nat) : Int)) (by omega) (by omega)
          have hr2 := kWf_room hW (r := (sml f (fun rm => fitF f wm wd rm q k t n) i)) (by omega) (by omega)
          refine k_aload_n (pc1 := 32) dX6_smallest_31 rfl rfl ?_
          refine k_get (pc1 := 35) dX6_smallest_32 rfl fd_RX6_7 hM.1 (v := .ref g) rfl ?_
          refine k_iconst (pc1 := 36) dX6_smallest_35 rfl ?_
          refine k_iload (pc1 := 38) dX6_smallest_36 rfl rfl ?_
          refine k_iadd (a := 5) (b := ((i : Nat) : Int)) (pc1 := 39) dX6_smallest_38 rfl ?_
          refine k_iald (i := (5 + ((i : Nat) : Int))) (f := f) (pc1 := 40) dX6_smallest_39 rfl hM.2.1 (N := 380) (by omega) (by omega) (by decide) (k_val (v' := .int (iI (f (5 + ((i : Nat) : Int)).toNat))) rfl ?_)
          refine k_aload_n (pc1 := 41) dX6_smallest_40 rfl rfl ?_
          refine k_get (pc1 := 44) dX6_smallest_41 rfl fd_RX6_7 hM.1 (v := .ref g) rfl ?_
          refine k_iconst (pc1 := 45) dX6_smallest_44 rfl ?_
          refine k_iload (pc1 := 47) dX6_smallest_45 rfl rfl ?_
          refine k_iadd (a := 5) (b := (sml f (fun rm => fitF f wm wd rm q k t n) i)) (pc1 := 48) dX6_smallest_47 rfl ?_
          refine k_iald (i := (5 + (sml f (fun rm => fitF f wm wd rm q k t n) i))) (f := f) (pc1 := 49) dX6_smallest_48 rfl hM.2.1 (N := 380) (by omega) (by omega) (by decide) (k_val (v' := .int (iI (f (5 + (sml f (fun rm => fitF f wm wd rm q k t n) i)).toNat))) rfl ?_)
          refine k_icmp_ge (a := (f (5 + ((i : Nat) : Int)).toNat)) (b := (f (5 + (sml f (fun rm => fitF f wm wd rm q k t n) i)).toNat)) dX6_smallest_49 rfl (tgt := 56) rfl (by omega) (by omega) (fun c49 : (f (5 + (sml f (fun rm => fitF f wm wd rm q k t n) i)).toNat) ≤ (f (5 + ((i : Nat) : Int)).toNat) => ?_) (fun c49 : (f (5 + ((i : Nat) : Int)).toNat) < (f (5 + (sml f (fun rm => fitF f wm wd rm q k t n) i)).toNat) => ?_)
          · skip
            refine k_iinc (a := ((i : Nat) : Int)) (pc1 := 59) dX6_smallest_56 rfl rfl (by decide) (k_loc (L' := [some (.ref o), some (.int (iI ((q : Nat) : Int))), some (.int (iI k)), some (.int (iI t)), some (.int (iI n)), some (.int (iI (sml f (fun rm => fitF f wm wd rm q k t n) i))), some (.int (iI (((i : Nat) : Int) + 1)))]) rfl ?_)
            refine k_goto dX6_smallest_59 (tgt := 6) rfl ?_
            have e : (sml f (fun rm => fitF f wm wd rm q k t n) (i + 1)) = (sml f (fun rm => fitF f wm wd rm q k t n) i) := kI_f (by rintro ⟨z1, z2⟩; first | exact c23 z1 | omega)
            refine k_loc (L' := [some (.ref o), some (.int (iI ((q : Nat) : Int))), some (.int (iI k)), some (.int (iI t)), some (.int (iI n)), some (.int (iI (sml f (fun rm => fitF f wm wd rm q k t n) (i + 1)))), some (.int (iI (((i : Nat) : Int) + 1)))]) (by rw [e]) ?_
            exact ih6 _ (by omega) (i + 1) rfl (by omega)
          · skip
            refine k_iload (pc1 := 54) dX6_smallest_52 rfl rfl ?_
            refine k_istore (pc1 := 56) dX6_smallest_54 rfl (by decide) (k_loc (L' := [some (.ref o), some (.int (iI ((q : Nat) : Int))), some (.int (iI k)), some (.int (iI t)), some (.int (iI n)), some (.int (iI ((i : Nat) : Int))), some (.int (iI ((i : Nat) : Int)))]) rfl ?_)
            refine k_iinc (a := ((i : Nat) : Int)) (pc1 := 59) dX6_smallest_56 rfl rfl (by decide) (k_loc (L' := [some (.ref o), some (.int (iI ((q : Nat) : Int))), some (.int (iI k)), some (.int (iI t)), some (.int (iI n)), some (.int (iI ((i : Nat) : Int))), some (.int (iI (((i : Nat) : Int) + 1)))]) rfl ?_)
            refine k_goto dX6_smallest_59 (tgt := 6) rfl ?_
            have e : (sml f (fun rm => fitF f wm wd rm q k t n) (i + 1)) = ((i : Nat) : Int) := kI_t ⟨c23, by omega⟩
            refine k_loc (L' := [some (.ref o), some (.int (iI ((q : Nat) : Int))), some (.int (iI k)), some (.int (iI t)), some (.int (iI n)), some (.int (iI (sml f (fun rm => fitF f wm wd rm q k t n) (i + 1)))), some (.int (iI (((i : Nat) : Int) + 1)))]) (by rw [e]) ?_
            exact ih6 _ (by omega) (i + 1) rfl (by omega)
  exact hloop6 _ 0 rfl (by omega)
theorem w_X6_clashes {l : Launch} {G : kG} {h : kAH} {o g r : Nat} {c wm wd : Int} {f : Nat → Int} (hl : l.stackTraces = false) (hM : kMd G h o g r c wm wd f) (m dt p : Int) (hW : kWf f) (hi : inP f m dt) (hp : 0 ≤ p ∧ p < 6) : kP l G m_X6_clashes 4 [.ref o, .int (iI m), .int (iI dt), .int (iI p)] h (.int (iI (kB (clF f m dt p)))) := by
  have h8 := kWf_cnt hW
  have hgp := kWf_gap hW
  obtain ⟨hm0, hm1, hd0, hd1⟩ := id hi
  have hmm := kWf_m hW hm0 hm1
  have hmd := kWf_d hW hm0 hm1 hd0 hd1
  have hr4 := kWf_room hW (r := dF f m dt 3) (by omega) (by omega)
  refine kC_of hl rfl rfl (Nat.le_of_ble_eq_true rfl) (L := [some (.ref o), some (.int (iI m)), some (.int (iI dt)), some (.int (iI p)), none, none, none, none]) rfl ?_
  refine k_aload_n (pc1 := 1) dX6_clashes_0 rfl rfl ?_
  refine k_get (pc1 := 4) dX6_clashes_1 rfl fd_RX6_7 hM.1 (v := .ref g) rfl ?_
  refine k_bipush 9 (pc1 := 6) dX6_clashes_4 rfl (by decide) ?_
  refine k_aload_n (pc1 := 7) dX6_clashes_6 rfl rfl ?_
  refine k_iload_n (pc1 := 8) dX6_clashes_7 rfl rfl ?_
  refine k_iload_n (pc1 := 9) dX6_clashes_8 rfl rfl ?_
  refine k_iconst (pc1 := 10) dX6_clashes_9 rfl ?_
  refine k_callVP dX6_clashes_10 rfl lk_RX6_45 o_X6_date (w_X6_date hl hM m dt 3 (by omega) (by omega)) (as := [.int (iI m), .int (iI dt), .int (iI 3)]) hM.1 rfl rfl rfl rfl (by decide) (by decide) (k8 rfl) ?_
  refine k_iadd (a := 9) (b := (dF f m dt 3)) (pc1 := 14) dX6_clashes_13 rfl ?_
  refine k_iald (i := (9 + (dF f m dt 3))) (f := f) (pc1 := 15) dX6_clashes_14 rfl hM.2.1 (N := 380) (by omega) (by omega) (by decide) (k_val (v' := .int (iI (f (9 + (dF f m dt 3)).toNat))) rfl ?_)
  refine k_istore (pc1 := 17) dX6_clashes_15 rfl (by decide) (k_loc (L' := [some (.ref o), some (.int (iI m)), some (.int (iI dt)), some (.int (iI p)), some (.int (iI (f (9 + (dF f m dt 3)).toNat))), none, none, none]) rfl ?_)
  refine k_iconst (pc1 := 18) dX6_clashes_17 rfl ?_
  refine k_istore (pc1 := 20) dX6_clashes_18 rfl (by decide) (k_loc (L' := [some (.ref o), some (.int (iI m)), some (.int (iI dt)), some (.int (iI p)), some (.int (iI (f (9 + (dF f m dt 3)).toNat))), some (.int (iI 0)), none, none]) rfl ?_)
  have hloop20 : ∀ (zz : Nat) (a : Int), zz = (f 1 - a).toNat → (0 ≤ a) → (a ≤ f 1) → (alI f (ckP f m dt p) a 0) → kW l G m_X6_clashes 4 (kPq (.int (iI (kB (clF f m dt p)))) h) kNo 0 0 20 [some (.ref o), some (.int (iI m)), some (.int (iI dt)), some (.int (iI p)), some (.int (iI (f (9 + (dF f m dt 3)).toNat))), some (.int (iI a)), none, none] [] h := by
    intro zz
    induction zz using Nat.strongRecOn with
    | ind zz ih20 =>
    intro a hr20 ha0 ha1 hB
    refine k_iload (pc1 := 22) dX6_clashes_20 rfl rfl ?_
    refine k_aload_n (pc1 := 23) dX6_clashes_22 rfl rfl ?_
    refine k_get (pc1 := 26) dX6_clashes_23 rfl fd_RX6_7 hM.1 (v := .ref g) rfl ?_
    refine k_iconst (pc1 := 27) dX6_clashes_26 rfl ?_
    refine k_iald (i := 1) (f := f) (pc1 := 28) dX6_clashes_27 rfl hM.2.1 (N := 380) (by omega) (by omega) (by decide) (k_val (v' := .int (iI (f 1))) rfl ?_)
    refine k_icmp_ge (a := a) (b := (f 1)) dX6_clashes_28 rfl (tgt := 182) rfl (by omega) (by omega) (fun c28 : (f 1) ≤ a => ?_) (fun c28 : a < (f 1) => ?_)
    · skip
      refine k_iconst (pc1 := 183) dX6_clashes_182 rfl ?_
      exact k_iret dX6_clashes_183 rfl rfl (kret (kB_f (alI_ex hB (by omega))).symm _)
    · skip
      have ha := kWf_m hW ha0 c28
      refine k_iconst (pc1 := 32) dX6_clashes_31 rfl ?_
      refine k_istore (pc1 := 34) dX6_clashes_32 rfl (by decide) (k_loc (L' := [some (.ref o), some (.int (iI m)), some (.int (iI dt)), some (.int (iI p)), some (.int (iI (f (9 + (dF f m dt 3)).toNat))), some (.int (iI a)), some (.int (iI 0)), none]) rfl ?_)
      have hloop34 : ∀ (zz : Nat) (e : Int), zz = (oF f a 3 - e).toNat → (0 ≤ e) → (e ≤ oF f a 3) → (alI f (ckP f m dt p) a e) → kW l G m_X6_clashes 4 (kPq (.int (iI (kB (clF f m dt p)))) h) kNo 0 0 34 [some (.ref o), some (.int (iI m)), some (.int (iI dt)), some (.int (iI p)), some (.int (iI (f (9 + (dF f m dt 3)).toNat))), some (.int (iI a)), some (.int (iI e)), none] [] h := by
        intro zz
        induction zz using Nat.strongRecOn with
        | ind zz ih34 =>
        intro e hr34 he0 he1 hB
        refine k_iload (pc1 := 36) dX6_clashes_34 rfl rfl ?_
        refine k_aload_n (pc1 := 37) dX6_clashes_36 rfl rfl ?_
        refine k_iload (pc1 := 39) dX6_clashes_37 rfl rfl ?_
        refine k_iconst (pc1 := 40) dX6_clashes_39 rfl ?_
        refine k_callVP dX6_clashes_40 rfl lk_RX6_37 o_X6_of (w_X6_of hl hM a 3 (by omega) (by omega)) (as := [.int (iI a), .int (iI 3)]) hM.1 rfl rfl rfl rfl (by decide) (by decide) (k8 rfl) ?_
        refine k_icmp_ge (a := e) (b := (oF f a 3)) dX6_clashes_43 rfl (tgt := 176) rfl (by omega) (by omega) (fun c43 : (oF f a 3) ≤ e => ?_) (fun c43 : e < (oF f a 3) => ?_)
        · skip
          refine k_iinc (a := a) (pc1 := 179) dX6_clashes_176 rfl rfl (by decide) (k_loc (L' := [some (.ref o), some (.int (iI m)), some (.int (iI dt)), some (.int (iI p)), some (.int (iI (f (9 + (dF f m dt 3)).toNat))), some (.int (iI (a + 1))), some (.int (iI e)), none]) rfl ?_)
          refine k_goto dX6_clashes_179 (tgt := 20) rfl ?_
          refine k_forget 6 (k_loc (L' := [some (.ref o), some (.int (iI m)), some (.int (iI dt)), some (.int (iI p)), some (.int (iI (f (9 + (dF f m dt 3)).toNat))), some (.int (iI (a + 1))), none, none]) rfl ?_)
          exact ih20 _ (by omega) (a + 1) rfl (by omega) (by omega) (alI_n hB ha0 (by omega))
        · skip
          have hi2 : inP f a e := ⟨ha0, c28, he0, c43⟩
          have had := kWf_d hW ha0 c28 he0 c43
          refine k_iload (pc1 := 48) dX6_clashes_46 rfl rfl ?_
          refine k_iload_n (pc1 := 49) dX6_clashes_48 rfl rfl ?_
          refine k_icmp_ne (a := a) (b := m) dX6_clashes_49 rfl (tgt := 58) rfl (by omega) (by omega) (fun c49 : a ≠ m => ?_) (fun c49 : a = m => ?_)
          · skip
            refine k_aload_n (pc1 := 59) dX6_clashes_58 rfl rfl ?_
            refine k_iload (pc1 := 61) dX6_clashes_59 rfl rfl ?_
            refine k_iload (pc1 := 63) dX6_clashes_61 rfl rfl ?_
            refine k_callVP dX6_clashes_63 rfl lk_RX6_49 o_X6_isOn (w_X6_isOn hl hM a e hW ⟨by omega, by omega, by omega, by omega⟩) (as := [.int (iI a), .int (iI e)]) hM.1 rfl rfl rfl rfl (by decide) (by decide) (k8 rfl) ?_
            refine k_if_eq (a := kB (onF f a e)) dX6_clashes_66 rfl (tgt := 170) rfl (kB_r _) (fun c66 : kB (onF f a e) = 0 => ?_) (fun c66 : kB (onF f a e) ≠ 0 => ?_)
            · replace c66 : ¬(onF f a e) := kB_z.mp c66
              refine k_iinc (a := e) (pc1 := 173) dX6_clashes_170 rfl rfl (by decide) (k_loc (L' := [some (.ref o), some (.int (iI m)), some (.int (iI dt)), some (.int (iI p)), some (.int (iI (f (9 + (dF f m dt 3)).toNat))), some (.int (iI a)), some (.int (iI (e + 1))), none]) rfl ?_)
              refine k_goto dX6_clashes_173 (tgt := 34) rfl ?_
              exact ih34 _ (by omega) (e + 1) rfl (by omega) (by omega) (alI_s hB he0 (fun z => by obtain ⟨z1, z2, z3, z4, z5⟩ := z; first | exact z1 ⟨c49, c55⟩ | exact c66 z2 | (rcases z3 with z3 | z3; exact c72 z3; exact c82 z3) | exact c101 z4 | (rcases z5 with z5 | ⟨z5, z6⟩; omega; first | exact z5 c154 | omega)))
            · replace c66 : (onF f a e) := kB_nz.mp c66
              refine k_iload (pc1 := 71) dX6_clashes_69 rfl rfl ?_
              refine k_iload_n (pc1 := 72) dX6_clashes_71 rfl rfl ?_
              refine k_icmp_eq (a := a) (b := m) dX6_clashes_72 rfl (tgt := 85) rfl (by omega) (by omega) (fun c72 : a = m => ?_) (fun c72 : a ≠ m => ?_)
              · skip
                refine k_aload_n (pc1 := 86) dX6_clashes_85 rfl rfl ?_
                refine k_iload (pc1 := 88) dX6_clashes_86 rfl rfl ?_
                refine k_iload (pc1 := 90) dX6_clashes_88 rfl rfl ?_
                refine k_iconst (pc1 := 91) dX6_clashes_90 rfl ?_
                refine k_callVP dX6_clashes_91 rfl lk_RX6_45 o_X6_date (w_X6_date hl hM a e 0 (by omega) (by omega)) (as := [.int (iI a), .int (iI e), .int (iI 0)]) hM.1 rfl rfl rfl rfl (by decide) (by decide) (k8 rfl) ?_
                refine k_aload_n (pc1 := 95) dX6_clashes_94 rfl rfl ?_
                refine k_iload_n (pc1 := 96) dX6_clashes_95 rfl rfl ?_
                refine k_iload_n (pc1 := 97) dX6_clashes_96 rfl rfl ?_
                refine k_iconst (pc1 := 98) dX6_clashes_97 rfl ?_
                refine k_callVP dX6_clashes_98 rfl lk_RX6_45 o_X6_date (w_X6_date hl hM m dt 0 (by omega) (by omega)) (as := [.int (iI m), .int (iI dt), .int (iI 0)]) hM.1 rfl rfl rfl rfl (by decide) (by decide) (k8 rfl) ?_
                refine k_icmp_eq (a := (dF f a e 0)) (b := (dF f m dt 0)) dX6_clashes_101 rfl (tgt := 107) rfl (by omega) (by omega) (fun c101 : (dF f a e 0) = (dF f m dt 0) => ?_) (fun c101 : (dF f a e 0) ≠ (dF f m dt 0) => ?_)
                · skip
                  have hbr := btF_r (t := dF f m dt 1) (n := oF f m 2) hW hi2 ⟨by omega, by omega⟩ ⟨by omega, by omega⟩
                  refine k_aload_n (pc1 := 108) dX6_clashes_107 rfl rfl ?_
                  refine k_iload (pc1 := 110) dX6_clashes_108 rfl rfl ?_
                  refine k_iload (pc1 := 112) dX6_clashes_110 rfl rfl ?_
                  refine k_aload_n (pc1 := 113) dX6_clashes_112 rfl rfl ?_
                  refine k_iload_n (pc1 := 114) dX6_clashes_113 rfl rfl ?_
                  refine k_iload_n (pc1 := 115) dX6_clashes_114 rfl rfl ?_
                  refine k_iconst (pc1 := 116) dX6_clashes_115 rfl ?_
                  refine k_callVP dX6_clashes_116 rfl lk_RX6_45 o_X6_date (w_X6_date hl hM m dt 1 (by omega) (by omega)) (as := [.int (iI m), .int (iI dt), .int (iI 1)]) hM.1 rfl rfl rfl rfl (by decide) (by decide) (k8 rfl) ?_
                  refine k_aload_n (pc1 := 120) dX6_clashes_119 rfl rfl ?_
                  refine k_iload_n (pc1 := 121) dX6_clashes_120 rfl rfl ?_
                  refine k_iconst (pc1 := 122) dX6_clashes_121 rfl ?_
                  refine k_callVP dX6_clashes_122 rfl lk_RX6_37 o_X6_of (w_X6_of hl hM m 2 (by omega) (by omega)) (as := [.int (iI m), .int (iI 2)]) hM.1 rfl rfl rfl rfl (by decide) (by decide) (k8 rfl) ?_
                  refine k_callVP dX6_clashes_125 rfl lk_RX6_55 o_X6_between (w_X6_between hl hM a e (dF f m dt 1) (oF f m 2) hW ⟨by omega, by omega, by omega, by omega⟩ ⟨by omega, by omega⟩ ⟨by omega, by omega⟩) (as := [.int (iI a), .int (iI e), .int (iI (dF f m dt 1)), .int (iI (oF f m 2))]) hM.1 rfl rfl rfl rfl (by decide) (by decide) (k8 rfl) ?_
                  refine k_istore (pc1 := 130) dX6_clashes_128 rfl (by decide) (k_loc (L' := [some (.ref o), some (.int (iI m)), some (.int (iI dt)), some (.int (iI p)), some (.int (iI (f (9 + (dF f m dt 3)).toNat))), some (.int (iI a)), some (.int (iI e)), some (.int (iI (btF f a e (dF f m dt 1) (oF f m 2))))]) rfl ?_)
                  refine k_iload (pc1 := 132) dX6_clashes_130 rfl rfl ?_
                  refine k_if_lt (a := (btF f a e (dF f m dt 1) (oF f m 2))) dX6_clashes_132 rfl (tgt := 168) rfl (by omega) (fun c132 : (btF f a e (dF f m dt 1) (oF f m 2)) < 0 => ?_) (fun c132 : ¬ (btF f a e (dF f m dt 1) (oF f m 2)) < 0 => ?_)
                  · skip
                    refine k_iconst (pc1 := 169) dX6_clashes_168 rfl ?_
                    exact k_iret dX6_clashes_169 rfl rfl (kret (kB_t ⟨a, e, hi2, (fun z => by first | exact c49 z.1 | exact c55 z.2), c66, (by first | exact Or.inl c72 | exact Or.inr c82), c101, (by first | exact Or.inl c132 | exact Or.inr ⟨c154, c165⟩)⟩).symm _)
                  · skip
                    have hr5 := kWf_room hW (r := dF f a e 3) (by omega) (by omega)
                    refine k_aload_n (pc1 := 136) dX6_clashes_135 rfl rfl ?_
                    refine k_get (pc1 := 139) dX6_clashes_136 rfl fd_RX6_7 hM.1 (v := .ref g) rfl ?_
                    refine k_bipush 9 (pc1 := 141) dX6_clashes_139 rfl (by decide) ?_
                    refine k_aload_n (pc1 := 142) dX6_clashes_141 rfl rfl ?_
                    refine k_iload (pc1 := 144) dX6_clashes_142 rfl rfl ?_
                    refine k_iload (pc1 := 146) dX6_clashes_144 rfl rfl ?_
                    refine k_iconst (pc1 := 147) dX6_clashes_146 rfl ?_
                    refine k_callVP dX6_clashes_147 rfl lk_RX6_45 o_X6_date (w_X6_date hl hM a e 3 (by omega) (by omega)) (as := [.int (iI a), .int (iI e), .int (iI 3)]) hM.1 rfl rfl rfl rfl (by decide) (by decide) (k8 rfl) ?_
                    refine k_iadd (a := 9) (b := (dF f a e 3)) (pc1 := 151) dX6_clashes_150 rfl ?_
                    refine k_iald (i := (9 + (dF f a e 3))) (f := f) (pc1 := 152) dX6_clashes_151 rfl hM.2.1 (N := 380) (by omega) (by omega) (by decide) (k_val (v' := .int (iI (f (9 + (dF f a e 3)).toNat))) rfl ?_)
                    refine k_iload (pc1 := 154) dX6_clashes_152 rfl rfl ?_
                    refine k_icmp_eq (a := (f (9 + (dF f a e 3)).toNat)) (b := (f (9 + (dF f m dt 3)).toNat)) dX6_clashes_154 rfl (tgt := 170) rfl (by omega) (by omega) (fun c154 : (f (9 + (dF f a e 3)).toNat) = (f (9 + (dF f m dt 3)).toNat) => ?_) (fun c154 : (f (9 + (dF f a e 3)).toNat) ≠ (f (9 + (dF f m dt 3)).toNat) => ?_)
                    · skip
                      refine k_iinc (a := e) (pc1 := 173) dX6_clashes_170 rfl rfl (by decide) (k_loc (L' := [some (.ref o), some (.int (iI m)), some (.int (iI dt)), some (.int (iI p)), some (.int (iI (f (9 + (dF f m dt 3)).toNat))), some (.int (iI a)), some (.int (iI (e + 1))), some (.int (iI (btF f a e (dF f m dt 1) (oF f m 2))))]) rfl ?_)
                      refine k_goto dX6_clashes_173 (tgt := 34) rfl ?_
                      refine k_forget 7 (k_loc (L' := [some (.ref o), some (.int (iI m)), some (.int (iI dt)), some (.int (iI p)), some (.int (iI (f (9 + (dF f m dt 3)).toNat))), some (.int (iI a)), some (.int (iI (e + 1))), none]) rfl ?_)
                      exact ih34 _ (by omega) (e + 1) rfl (by omega) (by omega) (alI_s hB he0 (fun z => by obtain ⟨z1, z2, z3, z4, z5⟩ := z; first | exact z1 ⟨c49, c55⟩ | exact c66 z2 | (rcases z3 with z3 | z3; exact c72 z3; exact c82 z3) | exact c101 z4 | (rcases z5 with z5 | ⟨z5, z6⟩; omega; first | exact z5 c154 | omega)))
                    · skip
                      refine k_iload (pc1 := 159) dX6_clashes_157 rfl rfl ?_
                      refine k_aload_n (pc1 := 160) dX6_clashes_159 rfl rfl ?_
                      refine k_get (pc1 := 163) dX6_clashes_160 rfl fd_RX6_7 hM.1 (v := .ref g) rfl ?_
                      refine k_iconst (pc1 := 164) dX6_clashes_163 rfl ?_
                      refine k_iald (i := 0) (f := f) (pc1 := 165) dX6_clashes_164 rfl hM.2.1 (N := 380) (by omega) (by omega) (by decide) (k_val (v' := .int (iI (f 0))) rfl ?_)
                      refine k_icmp_ge (a := (btF f a e (dF f m dt 1) (oF f m 2))) (b := (f 0)) dX6_clashes_165 rfl (tgt := 170) rfl (by omega) (by omega) (fun c165 : (f 0) ≤ (btF f a e (dF f m dt 1) (oF f m 2)) => ?_) (fun c165 : (btF f a e (dF f m dt 1) (oF f m 2)) < (f 0) => ?_)
                      · skip
                        refine k_iinc (a := e) (pc1 := 173) dX6_clashes_170 rfl rfl (by decide) (k_loc (L' := [some (.ref o), some (.int (iI m)), some (.int (iI dt)), some (.int (iI p)), some (.int (iI (f (9 + (dF f m dt 3)).toNat))), some (.int (iI a)), some (.int (iI (e + 1))), some (.int (iI (btF f a e (dF f m dt 1) (oF f m 2))))]) rfl ?_)
                        refine k_goto dX6_clashes_173 (tgt := 34) rfl ?_
                        refine k_forget 7 (k_loc (L' := [some (.ref o), some (.int (iI m)), some (.int (iI dt)), some (.int (iI p)), some (.int (iI (f (9 + (dF f m dt 3)).toNat))), some (.int (iI a)), some (.int (iI (e + 1))), none]) rfl ?_)
                        exact ih34 _ (by omega) (e + 1) rfl (by omega) (by omega) (alI_s hB he0 (fun z => by obtain ⟨z1, z2, z3, z4, z5⟩ := z; first | exact z1 ⟨c49, c55⟩ | exact c66 z2 | (rcases z3 with z3 | z3; exact c72 z3; exact c82 z3) | exact c101 z4 | (rcases z5 with z5 | ⟨z5, z6⟩; omega; first | exact z5 c154 | omega)))
                      · skip
                        refine k_iconst (pc1 := 169) dX6_clashes_168 rfl ?_
                        exact k_iret dX6_clashes_169 rfl rfl (kret (kB_t ⟨a, e, hi2, (fun z => by first | exact c49 z.1 | exact c55 z.2), c66, (by first | exact Or.inl c72 | exact Or.inr c82), c101, (by first | exact Or.inl c132 | exact Or.inr ⟨c154, c165⟩)⟩).symm _)
                · skip
                  refine k_goto dX6_clashes_104 (tgt := 170) rfl ?_
                  refine k_iinc (a := e) (pc1 := 173) dX6_clashes_170 rfl rfl (by decide) (k_loc (L' := [some (.ref o), some (.int (iI m)), some (.int (iI dt)), some (.int (iI p)), some (.int (iI (f (9 + (dF f m dt 3)).toNat))), some (.int (iI a)), some (.int (iI (e + 1))), none]) rfl ?_)
                  refine k_goto dX6_clashes_173 (tgt := 34) rfl ?_
                  exact ih34 _ (by omega) (e + 1) rfl (by omega) (by omega) (alI_s hB he0 (fun z => by obtain ⟨z1, z2, z3, z4, z5⟩ := z; first | exact z1 ⟨c49, c55⟩ | exact c66 z2 | (rcases z3 with z3 | z3; exact c72 z3; exact c82 z3) | exact c101 z4 | (rcases z5 with z5 | ⟨z5, z6⟩; omega; first | exact z5 c154 | omega)))
              · skip
                refine k_aload_n (pc1 := 76) dX6_clashes_75 rfl rfl ?_
                refine k_iload (pc1 := 78) dX6_clashes_76 rfl rfl ?_
                refine k_iload_n (pc1 := 79) dX6_clashes_78 rfl rfl ?_
                refine k_callVP dX6_clashes_79 rfl lk_RX6_41 o_X6_isExpected (w_X6_isExpected hl hM a p hW (by omega) (by omega) (by omega) (by omega)) (as := [.int (iI a), .int (iI p)]) hM.1 rfl rfl rfl rfl (by decide) (by decide) (k8 rfl) ?_
                refine k_if_eq (a := kB (exF f a p)) dX6_clashes_82 rfl (tgt := 170) rfl (kB_r _) (fun c82 : kB (exF f a p) = 0 => ?_) (fun c82 : kB (exF f a p) ≠ 0 => ?_)
                · replace c82 : ¬(exF f a p) := kB_z.mp c82
                  refine k_iinc (a := e) (pc1 := 173) dX6_clashes_170 rfl rfl (by decide) (k_loc (L' := [some (.ref o), some (.int (iI m)), some (.int (iI dt)), some (.int (iI p)), some (.int (iI (f (9 + (dF f m dt 3)).toNat))), some (.int (iI a)), some (.int (iI (e + 1))), none]) rfl ?_)
                  refine k_goto dX6_clashes_173 (tgt := 34) rfl ?_
                  exact ih34 _ (by omega) (e + 1) rfl (by omega) (by omega) (alI_s hB he0 (fun z => by obtain ⟨z1, z2, z3, z4, z5⟩ := z; first | exact z1 ⟨c49, c55⟩ | exact c66 z2 | (rcases z3 with z3 | z3; exact c72 z3; exact c82 z3) | exact c101 z4 | (rcases z5 with z5 | ⟨z5, z6⟩; omega; first | exact z5 c154 | omega)))
                · replace c82 : (exF f a p) := kB_nz.mp c82
                  refine k_aload_n (pc1 := 86) dX6_clashes_85 rfl rfl ?_
                  refine k_iload (pc1 := 88) dX6_clashes_86 rfl rfl ?_
                  refine k_iload (pc1 := 90) dX6_clashes_88 rfl rfl ?_
                  refine k_iconst (pc1 := 91) dX6_clashes_90 rfl ?_
                  refine k_callVP dX6_clashes_91 rfl lk_RX6_45 o_X6_date (w_X6_date hl hM a e 0 (by omega) (by omega)) (as := [.int (iI a), .int (iI e), .int (iI 0)]) hM.1 rfl rfl rfl rfl (by decide) (by decide) (k8 rfl) ?_
                  refine k_aload_n (pc1 := 95) dX6_clashes_94 rfl rfl ?_
                  refine k_iload_n (pc1 := 96) dX6_clashes_95 rfl rfl ?_
                  refine k_iload_n (pc1 := 97) dX6_clashes_96 rfl rfl ?_
                  refine k_iconst (pc1 := 98) dX6_clashes_97 rfl ?_
                  refine k_callVP dX6_clashes_98 rfl lk_RX6_45 o_X6_date (w_X6_date hl hM m dt 0 (by omega) (by omega)) (as := [.int (iI m), .int (iI dt), .int (iI 0)]) hM.1 rfl rfl rfl rfl (by decide) (by decide) (k8 rfl) ?_
                  refine k_icmp_eq (a := (dF f a e 0)) (b := (dF f m dt 0)) dX6_clashes_101 rfl (tgt := 107) rfl (by omega) (by omega) (fun c101 : (dF f a e 0) = (dF f m dt 0) => ?_) (fun c101 : (dF f a e 0) ≠ (dF f m dt 0) => ?_)
                  · skip
                    have hbr := btF_r (t := dF f m dt 1) (n := oF f m 2) hW hi2 ⟨by omega, by omega⟩ ⟨by omega, by omega⟩
                    refine k_aload_n (pc1 := 108) dX6_clashes_107 rfl rfl ?_
                    refine k_iload (pc1 := 110) dX6_clashes_108 rfl rfl ?_
                    refine k_iload (pc1 := 112) dX6_clashes_110 rfl rfl ?_
                    refine k_aload_n (pc1 := 113) dX6_clashes_112 rfl rfl ?_
                    refine k_iload_n (pc1 := 114) dX6_clashes_113 rfl rfl ?_
                    refine k_iload_n (pc1 := 115) dX6_clashes_114 rfl rfl ?_
                    refine k_iconst (pc1 := 116) dX6_clashes_115 rfl ?_
                    refine k_callVP dX6_clashes_116 rfl lk_RX6_45 o_X6_date (w_X6_date hl hM m dt 1 (by omega) (by omega)) (as := [.int (iI m), .int (iI dt), .int (iI 1)]) hM.1 rfl rfl rfl rfl (by decide) (by decide) (k8 rfl) ?_
                    refine k_aload_n (pc1 := 120) dX6_clashes_119 rfl rfl ?_
                    refine k_iload_n (pc1 := 121) dX6_clashes_120 rfl rfl ?_
                    refine k_iconst (pc1 := 122) dX6_clashes_121 rfl ?_
                    refine k_callVP dX6_clashes_122 rfl lk_RX6_37 o_X6_of (w_X6_of hl hM m 2 (by omega) (by omega)) (as := [.int (iI m), .int (iI 2)]) hM.1 rfl rfl rfl rfl (by decide) (by decide) (k8 rfl) ?_
                    refine k_callVP dX6_clashes_125 rfl lk_RX6_55 o_X6_between (w_X6_between hl hM a e (dF f m dt 1) (oF f m 2) hW ⟨by omega, by omega, by omega, by omega⟩ ⟨by omega, by omega⟩ ⟨by omega, by omega⟩) (as := [.int (iI a), .int (iI e), .int (iI (dF f m dt 1)), .int (iI (oF f m 2))]) hM.1 rfl rfl rfl rfl (by decide) (by decide) (k8 rfl) ?_
                    refine k_istore (pc1 := 130) dX6_clashes_128 rfl (by decide) (k_loc (L' := [some (.ref o), some (.int (iI m)), some (.int (iI dt)), some (.int (iI p)), some (.int (iI (f (9 + (dF f m dt 3)).toNat))), some (.int (iI a)), some (.int (iI e)), some (.int (iI (btF f a e (dF f m dt 1) (oF f m 2))))]) rfl ?_)
                    refine k_iload (pc1 := 132) dX6_clashes_130 rfl rfl ?_
                    refine k_if_lt (a := (btF f a e (dF f m dt 1) (oF f m 2))) dX6_clashes_132 rfl (tgt := 168) rfl (by omega) (fun c132 : (btF f a e (dF f m dt 1) (oF f m 2)) < 0 => ?_) (fun c132 : ¬ (btF f a e (dF f m dt 1) (oF f m 2)) < 0 => ?_)
                    · skip
                      refine k_iconst (pc1 := 169) dX6_clashes_168 rfl ?_
                      exact k_iret dX6_clashes_169 rfl rfl (kret (kB_t ⟨a, e, hi2, (fun z => by first | exact c49 z.1 | exact c55 z.2), c66, (by first | exact Or.inl c72 | exact Or.inr c82), c101, (by first | exact Or.inl c132 | exact Or.inr ⟨c154, c165⟩)⟩).symm _)
                    · skip
                      have hr5 := kWf_room hW (r := dF f a e 3) (by omega) (by omega)
                      refine k_aload_n (pc1 := 136) dX6_clashes_135 rfl rfl ?_
                      refine k_get (pc1 := 139) dX6_clashes_136 rfl fd_RX6_7 hM.1 (v := .ref g) rfl ?_
                      refine k_bipush 9 (pc1 := 141) dX6_clashes_139 rfl (by decide) ?_
                      refine k_aload_n (pc1 := 142) dX6_clashes_141 rfl rfl ?_
                      refine k_iload (pc1 := 144) dX6_clashes_142 rfl rfl ?_
                      refine k_iload (pc1 := 146) dX6_clashes_144 rfl rfl ?_
                      refine k_iconst (pc1 := 147) dX6_clashes_146 rfl ?_
                      refine k_callVP dX6_clashes_147 rfl lk_RX6_45 o_X6_date (w_X6_date hl hM a e 3 (by omega) (by omega)) (as := [.int (iI a), .int (iI e), .int (iI 3)]) hM.1 rfl rfl rfl rfl (by decide) (by decide) (k8 rfl) ?_
                      refine k_iadd (a := 9) (b := (dF f a e 3)) (pc1 := 151) dX6_clashes_150 rfl ?_
                      refine k_iald (i := (9 + (dF f a e 3))) (f := f) (pc1 := 152) dX6_clashes_151 rfl hM.2.1 (N := 380) (by omega) (by omega) (by decide) (k_val (v' := .int (iI (f (9 + (dF f a e 3)).toNat))) rfl ?_)
                      refine k_iload (pc1 := 154) dX6_clashes_152 rfl rfl ?_
                      refine k_icmp_eq (a := (f (9 + (dF f a e 3)).toNat)) (b := (f (9 + (dF f m dt 3)).toNat)) dX6_clashes_154 rfl (tgt := 170) rfl (by omega) (by omega) (fun c154 : (f (9 + (dF f a e 3)).toNat) = (f (9 + (dF f m dt 3)).toNat) => ?_) (fun c154 : (f (9 + (dF f a e 3)).toNat) ≠ (f (9 + (dF f m dt 3)).toNat) => ?_)
                      · skip
                        refine k_iinc (a := e) (pc1 := 173) dX6_clashes_170 rfl rfl (by decide) (k_loc (L' := [some (.ref o), some (.int (iI m)), some (.int (iI dt)), some (.int (iI p)), some (.int (iI (f (9 + (dF f m dt 3)).toNat))), some (.int (iI a)), some (.int (iI (e + 1))), some (.int (iI (btF f a e (dF f m dt 1) (oF f m 2))))]) rfl ?_)
                        refine k_goto dX6_clashes_173 (tgt := 34) rfl ?_
                        refine k_forget 7 (k_loc (L' := [some (.ref o), some (.int (iI m)), some (.int (iI dt)), some (.int (iI p)), some (.int (iI (f (9 + (dF f m dt 3)).toNat))), some (.int (iI a)), some (.int (iI (e + 1))), none]) rfl ?_)
                        exact ih34 _ (by omega) (e + 1) rfl (by omega) (by omega) (alI_s hB he0 (fun z => by obtain ⟨z1, z2, z3, z4, z5⟩ := z; first | exact z1 ⟨c49, c55⟩ | exact c66 z2 | (rcases z3 with z3 | z3; exact c72 z3; exact c82 z3) | exact c101 z4 | (rcases z5 with z5 | ⟨z5, z6⟩; omega; first | exact z5 c154 | omega)))
                      · skip
                        refine k_iload (pc1 := 159) dX6_clashes_157 rfl rfl ?_
                        refine k_aload_n (pc1 := 160) dX6_clashes_159 rfl rfl ?_
                        refine k_get (pc1 := 163) dX6_clashes_160 rfl fd_RX6_7 hM.1 (v := .ref g) rfl ?_
                        refine k_iconst (pc1 := 164) dX6_clashes_163 rfl ?_
                        refine k_iald (i := 0) (f := f) (pc1 := 165) dX6_clashes_164 rfl hM.2.1 (N := 380) (by omega) (by omega) (by decide) (k_val (v' := .int (iI (f 0))) rfl ?_)
                        refine k_icmp_ge (a := (btF f a e (dF f m dt 1) (oF f m 2))) (b := (f 0)) dX6_clashes_165 rfl (tgt := 170) rfl (by omega) (by omega) (fun c165 : (f 0) ≤ (btF f a e (dF f m dt 1) (oF f m 2)) => ?_) (fun c165 : (btF f a e (dF f m dt 1) (oF f m 2)) < (f 0) => ?_)
                        · skip
                          refine k_iinc (a := e) (pc1 := 173) dX6_clashes_170 rfl rfl (by decide) (k_loc (L' := [some (.ref o), some (.int (iI m)), some (.int (iI dt)), some (.int (iI p)), some (.int (iI (f (9 + (dF f m dt 3)).toNat))), some (.int (iI a)), some (.int (iI (e + 1))), some (.int (iI (btF f a e (dF f m dt 1) (oF f m 2))))]) rfl ?_)
                          refine k_goto dX6_clashes_173 (tgt := 34) rfl ?_
                          refine k_forget 7 (k_loc (L' := [some (.ref o), some (.int (iI m)), some (.int (iI dt)), some (.int (iI p)), some (.int (iI (f (9 + (dF f m dt 3)).toNat))), some (.int (iI a)), some (.int (iI (e + 1))), none]) rfl ?_)
                          exact ih34 _ (by omega) (e + 1) rfl (by omega) (by omega) (alI_s hB he0 (fun z => by obtain ⟨z1, z2, z3, z4, z5⟩ := z; first | exact z1 ⟨c49, c55⟩ | exact c66 z2 | (rcases z3 with z3 | z3; exact c72 z3; exact c82 z3) | exact c101 z4 | (rcases z5 with z5 | ⟨z5, z6⟩; omega; first | exact z5 c154 | omega)))
                        · skip
                          refine k_iconst (pc1 := 169) dX6_clashes_168 rfl ?_
                          exact k_iret dX6_clashes_169 rfl rfl (kret (kB_t ⟨a, e, hi2, (fun z => by first | exact c49 z.1 | exact c55 z.2), c66, (by first | exact Or.inl c72 | exact Or.inr c82), c101, (by first | exact Or.inl c132 | exact Or.inr ⟨c154, c165⟩)⟩).symm _)
                  · skip
                    refine k_goto dX6_clashes_104 (tgt := 170) rfl ?_
                    refine k_iinc (a := e) (pc1 := 173) dX6_clashes_170 rfl rfl (by decide) (k_loc (L' := [some (.ref o), some (.int (iI m)), some (.int (iI dt)), some (.int (iI p)), some (.int (iI (f (9 + (dF f m dt 3)).toNat))), some (.int (iI a)), some (.int (iI (e + 1))), none]) rfl ?_)
                    refine k_goto dX6_clashes_173 (tgt := 34) rfl ?_
                    exact ih34 _ (by omega) (e + 1) rfl (by omega) (by omega) (alI_s hB he0 (fun z => by obtain ⟨z1, z2, z3, z4, z5⟩ := z; first | exact z1 ⟨c49, c55⟩ | exact c66 z2 | (rcases z3 with z3 | z3; exact c72 z3; exact c82 z3) | exact c101 z4 | (rcases z5 with z5 | ⟨z5, z6⟩; omega; first | exact z5 c154 | omega)))
          · skip
            refine k_iload (pc1 := 54) dX6_clashes_52 rfl rfl ?_
            refine k_iload_n (pc1 := 55) dX6_clashes_54 rfl rfl ?_
            refine k_icmp_eq (a := e) (b := dt) dX6_clashes_55 rfl (tgt := 170) rfl (by omega) (by omega) (fun c55 : e = dt => ?_) (fun c55 : e ≠ dt => ?_)
            · skip
              refine k_iinc (a := e) (pc1 := 173) dX6_clashes_170 rfl rfl (by decide) (k_loc (L' := [some (.ref o), some (.int (iI m)), some (.int (iI dt)), some (.int (iI p)), some (.int (iI (f (9 + (dF f m dt 3)).toNat))), some (.int (iI a)), some (.int (iI (e + 1))), none]) rfl ?_)
              refine k_goto dX6_clashes_173 (tgt := 34) rfl ?_
              exact ih34 _ (by omega) (e + 1) rfl (by omega) (by omega) (alI_s hB he0 (fun z => by obtain ⟨z1, z2, z3, z4, z5⟩ := z; first | exact z1 ⟨c49, c55⟩ | exact c66 z2 | (rcases z3 with z3 | z3; exact c72 z3; exact c82 z3) | exact c101 z4 | (rcases z5 with z5 | ⟨z5, z6⟩; omega; first | exact z5 c154 | omega)))
            · skip
              refine k_aload_n (pc1 := 59) dX6_clashes_58 rfl rfl ?_
              refine k_iload (pc1 := 61) dX6_clashes_59 rfl rfl ?_
              refine k_iload (pc1 := 63) dX6_clashes_61 rfl rfl ?_
              refine k_callVP dX6_clashes_63 rfl lk_RX6_49 o_X6_isOn (w_X6_isOn hl hM a e hW ⟨by omega, by omega, by omega, by omega⟩) (as := [.int (iI a), .int (iI e)]) hM.1 rfl rfl rfl rfl (by decide) (by decide) (k8 rfl) ?_
              refine k_if_eq (a := kB (onF f a e)) dX6_clashes_66 rfl (tgt := 170) rfl (kB_r _) (fun c66 : kB (onF f a e) = 0 => ?_) (fun c66 : kB (onF f a e) ≠ 0 => ?_)
              · replace c66 : ¬(onF f a e) := kB_z.mp c66
                refine k_iinc (a := e) (pc1 := 173) dX6_clashes_170 rfl rfl (by decide) (k_loc (L' := [some (.ref o), some (.int (iI m)), some (.int (iI dt)), some (.int (iI p)), some (.int (iI (f (9 + (dF f m dt 3)).toNat))), some (.int (iI a)), some (.int (iI (e + 1))), none]) rfl ?_)
                refine k_goto dX6_clashes_173 (tgt := 34) rfl ?_
                exact ih34 _ (by omega) (e + 1) rfl (by omega) (by omega) (alI_s hB he0 (fun z => by obtain ⟨z1, z2, z3, z4, z5⟩ := z; first | exact z1 ⟨c49, c55⟩ | exact c66 z2 | (rcases z3 with z3 | z3; exact c72 z3; exact c82 z3) | exact c101 z4 | (rcases z5 with z5 | ⟨z5, z6⟩; omega; first | exact z5 c154 | omega)))
              · replace c66 : (onF f a e) := kB_nz.mp c66
                refine k_iload (pc1 := 71) dX6_clashes_69 rfl rfl ?_
                refine k_iload_n (pc1 := 72) dX6_clashes_71 rfl rfl ?_
                refine k_icmp_eq (a := a) (b := m) dX6_clashes_72 rfl (tgt := 85) rfl (by omega) (by omega) (fun c72 : a = m => ?_) (fun c72 : a ≠ m => ?_)
                · skip
                  refine k_aload_n (pc1 := 86) dX6_clashes_85 rfl rfl ?_
                  refine k_iload (pc1 := 88) dX6_clashes_86 rfl rfl ?_
                  refine k_iload (pc1 := 90) dX6_clashes_88 rfl rfl ?_
                  refine k_iconst (pc1 := 91) dX6_clashes_90 rfl ?_
                  refine k_callVP dX6_clashes_91 rfl lk_RX6_45 o_X6_date (w_X6_date hl hM a e 0 (by omega) (by omega)) (as := [.int (iI a), .int (iI e), .int (iI 0)]) hM.1 rfl rfl rfl rfl (by decide) (by decide) (k8 rfl) ?_
                  refine k_aload_n (pc1 := 95) dX6_clashes_94 rfl rfl ?_
                  refine k_iload_n (pc1 := 96) dX6_clashes_95 rfl rfl ?_
                  refine k_iload_n (pc1 := 97) dX6_clashes_96 rfl rfl ?_
                  refine k_iconst (pc1 := 98) dX6_clashes_97 rfl ?_
                  refine k_callVP dX6_clashes_98 rfl lk_RX6_45 o_X6_date (w_X6_date hl hM m dt 0 (by omega) (by omega)) (as := [.int (iI m), .int (iI dt), .int (iI 0)]) hM.1 rfl rfl rfl rfl (by decide) (by decide) (k8 rfl) ?_
                  refine k_icmp_eq (a := (dF f a e 0)) (b := (dF f m dt 0)) dX6_clashes_101 rfl (tgt := 107) rfl (by omega) (by omega) (fun c101 : (dF f a e 0) = (dF f m dt 0) => ?_) (fun c101 : (dF f a e 0) ≠ (dF f m dt 0) => ?_)
                  · skip
                    have hbr := btF_r (t := dF f m dt 1) (n := oF f m 2) hW hi2 ⟨by omega, by omega⟩ ⟨by omega, by omega⟩
                    refine k_aload_n (pc1 := 108) dX6_clashes_107 rfl rfl ?_
                    refine k_iload (pc1 := 110) dX6_clashes_108 rfl rfl ?_
                    refine k_iload (pc1 := 112) dX6_clashes_110 rfl rfl ?_
                    refine k_aload_n (pc1 := 113) dX6_clashes_112 rfl rfl ?_
                    refine k_iload_n (pc1 := 114) dX6_clashes_113 rfl rfl ?_
                    refine k_iload_n (pc1 := 115) dX6_clashes_114 rfl rfl ?_
                    refine k_iconst (pc1 := 116) dX6_clashes_115 rfl ?_
                    refine k_callVP dX6_clashes_116 rfl lk_RX6_45 o_X6_date (w_X6_date hl hM m dt 1 (by omega) (by omega)) (as := [.int (iI m), .int (iI dt), .int (iI 1)]) hM.1 rfl rfl rfl rfl (by decide) (by decide) (k8 rfl) ?_
                    refine k_aload_n (pc1 := 120) dX6_clashes_119 rfl rfl ?_
                    refine k_iload_n (pc1 := 121) dX6_clashes_120 rfl rfl ?_
                    refine k_iconst (pc1 := 122) dX6_clashes_121 rfl ?_
                    refine k_callVP dX6_clashes_122 rfl lk_RX6_37 o_X6_of (w_X6_of hl hM m 2 (by omega) (by omega)) (as := [.int (iI m), .int (iI 2)]) hM.1 rfl rfl rfl rfl (by decide) (by decide) (k8 rfl) ?_
                    refine k_callVP dX6_clashes_125 rfl lk_RX6_55 o_X6_between (w_X6_between hl hM a e (dF f m dt 1) (oF f m 2) hW ⟨by omega, by omega, by omega, by omega⟩ ⟨by omega, by omega⟩ ⟨by omega, by omega⟩) (as := [.int (iI a), .int (iI e), .int (iI (dF f m dt 1)), .int (iI (oF f m 2))]) hM.1 rfl rfl rfl rfl (by decide) (by decide) (k8 rfl) ?_
                    refine k_istore (pc1 := 130) dX6_clashes_128 rfl (by decide) (k_loc (L' := [some (.ref o), some (.int (iI m)), some (.int (iI dt)), some (.int (iI p)), some (.int (iI (f (9 + (dF f m dt 3)).toNat))), some (.int (iI a)), some (.int (iI e)), some (.int (iI (btF f a e (dF f m dt 1) (oF f m 2))))]) rfl ?_)
                    refine k_iload (pc1 := 132) dX6_clashes_130 rfl rfl ?_
                    refine k_if_lt (a := (btF f a e (dF f m dt 1) (oF f m 2))) dX6_clashes_132 rfl (tgt := 168) rfl (by omega) (fun c132 : (btF f a e (dF f m dt 1) (oF f m 2)) < 0 => ?_) (fun c132 : ¬ (btF f a e (dF f m dt 1) (oF f m 2)) < 0 => ?_)
                    · skip
                      refine k_iconst (pc1 := 169) dX6_clashes_168 rfl ?_
                      exact k_iret dX6_clashes_169 rfl rfl (kret (kB_t ⟨a, e, hi2, (fun z => by first | exact c49 z.1 | exact c55 z.2), c66, (by first | exact Or.inl c72 | exact Or.inr c82), c101, (by first | exact Or.inl c132 | exact Or.inr ⟨c154, c165⟩)⟩).symm _)
                    · skip
                      have hr5 := kWf_room hW (r := dF f a e 3) (by omega) (by omega)
                      refine k_aload_n (pc1 := 136) dX6_clashes_135 rfl rfl ?_
                      refine k_get (pc1 := 139) dX6_clashes_136 rfl fd_RX6_7 hM.1 (v := .ref g) rfl ?_
                      refine k_bipush 9 (pc1 := 141) dX6_clashes_139 rfl (by decide) ?_
                      refine k_aload_n (pc1 := 142) dX6_clashes_141 rfl rfl ?_
                      refine k_iload (pc1 := 144) dX6_clashes_142 rfl rfl ?_
                      refine k_iload (pc1 := 146) dX6_clashes_144 rfl rfl ?_
                      refine k_iconst (pc1 := 147) dX6_clashes_146 rfl ?_
                      refine k_callVP dX6_clashes_147 rfl lk_RX6_45 o_X6_date (w_X6_date hl hM a e 3 (by omega) (by omega)) (as := [.int (iI a), .int (iI e), .int (iI 3)]) hM.1 rfl rfl rfl rfl (by decide) (by decide) (k8 rfl) ?_
                      refine k_iadd (a := 9) (b := (dF f a e 3)) (pc1 := 151) dX6_clashes_150 rfl ?_
                      refine k_iald (i := (9 + (dF f a e 3))) (f := f) (pc1 := 152) dX6_clashes_151 rfl hM.2.1 (N := 380) (by omega) (by omega) (by decide) (k_val (v' := .int (iI (f (9 + (dF f a e 3)).toNat))) rfl ?_)
                      refine k_iload (pc1 := 154) dX6_clashes_152 rfl rfl ?_
                      refine k_icmp_eq (a := (f (9 + (dF f a e 3)).toNat)) (b := (f (9 + (dF f m dt 3)).toNat)) dX6_clashes_154 rfl (tgt := 170) rfl (by omega) (by omega) (fun c154 : (f (9 + (dF f a e 3)).toNat) = (f (9 + (dF f m dt 3)).toNat) => ?_) (fun c154 : (f (9 + (dF f a e 3)).toNat) ≠ (f (9 + (dF f m dt 3)).toNat) => ?_)
                      · skip
                        refine k_iinc (a := e) (pc1 := 173) dX6_clashes_170 rfl rfl (by decide) (k_loc (L' := [some (.ref o), some (.int (iI m)), some (.int (iI dt)), some (.int (iI p)), some (.int (iI (f (9 + (dF f m dt 3)).toNat))), some (.int (iI a)), some (.int (iI (e + 1))), some (.int (iI (btF f a e (dF f m dt 1) (oF f m 2))))]) rfl ?_)
                        refine k_goto dX6_clashes_173 (tgt := 34) rfl ?_
                        refine k_forget 7 (k_loc (L' := [some (.ref o), some (.int (iI m)), some (.int (iI dt)), some (.int (iI p)), some (.int (iI (f (9 + (dF f m dt 3)).toNat))), some (.int (iI a)), some (.int (iI (e + 1))), none]) rfl ?_)
                        exact ih34 _ (by omega) (e + 1) rfl (by omega) (by omega) (alI_s hB he0 (fun z => by obtain ⟨z1, z2, z3, z4, z5⟩ := z; first | exact z1 ⟨c49, c55⟩ | exact c66 z2 | (rcases z3 with z3 | z3; exact c72 z3; exact c82 z3) | exact c101 z4 | (rcases z5 with z5 | ⟨z5, z6⟩; omega; first | exact z5 c154 | omega)))
                      · skip
                        refine k_iload (pc1 := 159) dX6_clashes_157 rfl rfl ?_
                        refine k_aload_n (pc1 := 160) dX6_clashes_159 rfl rfl ?_
                        refine k_get (pc1 := 163) dX6_clashes_160 rfl fd_RX6_7 hM.1 (v := .ref g) rfl ?_
                        refine k_iconst (pc1 := 164) dX6_clashes_163 rfl ?_
                        refine k_iald (i := 0) (f := f) (pc1 := 165) dX6_clashes_164 rfl hM.2.1 (N := 380) (by omega) (by omega) (by decide) (k_val (v' := .int (iI (f 0))) rfl ?_)
                        refine k_icmp_ge (a := (btF f a e (dF f m dt 1) (oF f m 2))) (b := (f 0)) dX6_clashes_165 rfl (tgt := 170) rfl (by omega) (by omega) (fun c165 : (f 0) ≤ (btF f a e (dF f m dt 1) (oF f m 2)) => ?_) (fun c165 : (btF f a e (dF f m dt 1) (oF f m 2)) < (f 0) => ?_)
                        · skip
                          refine k_iinc (a := e) (pc1 := 173) dX6_clashes_170 rfl rfl (by decide) (k_loc (L' := [some (.ref o), some (.int (iI m)), some (.int (iI dt)), some (.int (iI p)), some (.int (iI (f (9 + (dF f m dt 3)).toNat))), some (.int (iI a)), some (.int (iI (e + 1))), some (.int (iI (btF f a e (dF f m dt 1) (oF f m 2))))]) rfl ?_)
                          refine k_goto dX6_clashes_173 (tgt := 34) rfl ?_
                          refine k_forget 7 (k_loc (L' := [some (.ref o), some (.int (iI m)), some (.int (iI dt)), some (.int (iI p)), some (.int (iI (f (9 + (dF f m dt 3)).toNat))), some (.int (iI a)), some (.int (iI (e + 1))), none]) rfl ?_)
                          exact ih34 _ (by omega) (e + 1) rfl (by omega) (by omega) (alI_s hB he0 (fun z => by obtain ⟨z1, z2, z3, z4, z5⟩ := z; first | exact z1 ⟨c49, c55⟩ | exact c66 z2 | (rcases z3 with z3 | z3; exact c72 z3; exact c82 z3) | exact c101 z4 | (rcases z5 with z5 | ⟨z5, z6⟩; omega; first | exact z5 c154 | omega)))
                        · skip
                          refine k_iconst (pc1 := 169) dX6_clashes_168 rfl ?_
                          exact k_iret dX6_clashes_169 rfl rfl (kret (kB_t ⟨a, e, hi2, (fun z => by first | exact c49 z.1 | exact c55 z.2), c66, (by first | exact Or.inl c72 | exact Or.inr c82), c101, (by first | exact Or.inl c132 | exact Or.inr ⟨c154, c165⟩)⟩).symm _)
                  · skip
                    refine k_goto dX6_clashes_104 (tgt := 170) rfl ?_
                    refine k_iinc (a := e) (pc1 := 173) dX6_clashes_170 rfl rfl (by decide) (k_loc (L' := [some (.ref o), some (.int (iI m)), some (.int (iI dt)), some (.int (iI p)), some (.int (iI (f (9 + (dF f m dt 3)).toNat))), some (.int (iI a)), some (.int (iI (e + 1))), none]) rfl ?_)
                    refine k_goto dX6_clashes_173 (tgt := 34) rfl ?_
                    exact ih34 _ (by omega) (e + 1) rfl (by omega) (by omega) (alI_s hB he0 (fun z => by obtain ⟨z1, z2, z3, z4, z5⟩ := z; first | exact z1 ⟨c49, c55⟩ | exact c66 z2 | (rcases z3 with z3 | z3; exact c72 z3; exact c82 z3) | exact c101 z4 | (rcases z5 with z5 | ⟨z5, z6⟩; omega; first | exact z5 c154 | omega)))
                · skip
                  refine k_aload_n (pc1 := 76) dX6_clashes_75 rfl rfl ?_
                  refine k_iload (pc1 := 78) dX6_clashes_76 rfl rfl ?_
                  refine k_iload_n (pc1 := 79) dX6_clashes_78 rfl rfl ?_
                  refine k_callVP dX6_clashes_79 rfl lk_RX6_41 o_X6_isExpected (w_X6_isExpected hl hM a p hW (by omega) (by omega) (by omega) (by omega)) (as := [.int (iI a), .int (iI p)]) hM.1 rfl rfl rfl rfl (by decide) (by decide) (k8 rfl) ?_
                  refine k_if_eq (a := kB (exF f a p)) dX6_clashes_82 rfl (tgt := 170) rfl (kB_r _) (fun c82 : kB (exF f a p) = 0 => ?_) (fun c82 : kB (exF f a p) ≠ 0 => ?_)
                  · replace c82 : ¬(exF f a p) := kB_z.mp c82
                    refine k_iinc (a := e) (pc1 := 173) dX6_clashes_170 rfl rfl (by decide) (k_loc (L' := [some (.ref o), some (.int (iI m)), some (.int (iI dt)), some (.int (iI p)), some (.int (iI (f (9 + (dF f m dt 3)).toNat))), some (.int (iI a)), some (.int (iI (e + 1))), none]) rfl ?_)
                    refine k_goto dX6_clashes_173 (tgt := 34) rfl ?_
                    exact ih34 _ (by omega) (e + 1) rfl (by omega) (by omega) (alI_s hB he0 (fun z => by obtain ⟨z1, z2, z3, z4, z5⟩ := z; first | exact z1 ⟨c49, c55⟩ | exact c66 z2 | (rcases z3 with z3 | z3; exact c72 z3; exact c82 z3) | exact c101 z4 | (rcases z5 with z5 | ⟨z5, z6⟩; omega; first | exact z5 c154 | omega)))
                  · replace c82 : (exF f a p) := kB_nz.mp c82
                    refine k_aload_n (pc1 := 86) dX6_clashes_85 rfl rfl ?_
                    refine k_iload (pc1 := 88) dX6_clashes_86 rfl rfl ?_
                    refine k_iload (pc1 := 90) dX6_clashes_88 rfl rfl ?_
                    refine k_iconst (pc1 := 91) dX6_clashes_90 rfl ?_
                    refine k_callVP dX6_clashes_91 rfl lk_RX6_45 o_X6_date (w_X6_date hl hM a e 0 (by omega) (by omega)) (as := [.int (iI a), .int (iI e), .int (iI 0)]) hM.1 rfl rfl rfl rfl (by decide) (by decide) (k8 rfl) ?_
                    refine k_aload_n (pc1 := 95) dX6_clashes_94 rfl rfl ?_
                    refine k_iload_n (pc1 := 96) dX6_clashes_95 rfl rfl ?_
                    refine k_iload_n (pc1 := 97) dX6_clashes_96 rfl rfl ?_
                    refine k_iconst (pc1 := 98) dX6_clashes_97 rfl ?_
                    refine k_callVP dX6_clashes_98 rfl lk_RX6_45 o_X6_date (w_X6_date hl hM m dt 0 (by omega) (by omega)) (as := [.int (iI m), .int (iI dt), .int (iI 0)]) hM.1 rfl rfl rfl rfl (by decide) (by decide) (k8 rfl) ?_
                    refine k_icmp_eq (a := (dF f a e 0)) (b := (dF f m dt 0)) dX6_clashes_101 rfl (tgt := 107) rfl (by omega) (by omega) (fun c101 : (dF f a e 0) = (dF f m dt 0) => ?_) (fun c101 : (dF f a e 0) ≠ (dF f m dt 0) => ?_)
                    · skip
                      have hbr := btF_r (t := dF f m dt 1) (n := oF f m 2) hW hi2 ⟨by omega, by omega⟩ ⟨by omega, by omega⟩
                      refine k_aload_n (pc1 := 108) dX6_clashes_107 rfl rfl ?_
                      refine k_iload (pc1 := 110) dX6_clashes_108 rfl rfl ?_
                      refine k_iload (pc1 := 112) dX6_clashes_110 rfl rfl ?_
                      refine k_aload_n (pc1 := 113) dX6_clashes_112 rfl rfl ?_
                      refine k_iload_n (pc1 := 114) dX6_clashes_113 rfl rfl ?_
                      refine k_iload_n (pc1 := 115) dX6_clashes_114 rfl rfl ?_
                      refine k_iconst (pc1 := 116) dX6_clashes_115 rfl ?_
                      refine k_callVP dX6_clashes_116 rfl lk_RX6_45 o_X6_date (w_X6_date hl hM m dt 1 (by omega) (by omega)) (as := [.int (iI m), .int (iI dt), .int (iI 1)]) hM.1 rfl rfl rfl rfl (by decide) (by decide) (k8 rfl) ?_
                      refine k_aload_n (pc1 := 120) dX6_clashes_119 rfl rfl ?_
                      refine k_iload_n (pc1 := 121) dX6_clashes_120 rfl rfl ?_
                      refine k_iconst (pc1 := 122) dX6_clashes_121 rfl ?_
                      refine k_callVP dX6_clashes_122 rfl lk_RX6_37 o_X6_of (w_X6_of hl hM m 2 (by omega) (by omega)) (as := [.int (iI m), .int (iI 2)]) hM.1 rfl rfl rfl rfl (by decide) (by decide) (k8 rfl) ?_
                      refine k_callVP dX6_clashes_125 rfl lk_RX6_55 o_X6_between (w_X6_between hl hM a e (dF f m dt 1) (oF f m 2) hW ⟨by omega, by omega, by omega, by omega⟩ ⟨by omega, by omega⟩ ⟨by omega, by omega⟩) (as := [.int (iI a), .int (iI e), .int (iI (dF f m dt 1)), .int (iI (oF f m 2))]) hM.1 rfl rfl rfl rfl (by decide) (by decide) (k8 rfl) ?_
                      refine k_istore (pc1 := 130) dX6_clashes_128 rfl (by decide) (k_loc (L' := [some (.ref o), some (.int (iI m)), some (.int (iI dt)), some (.int (iI p)), some (.int (iI (f (9 + (dF f m dt 3)).toNat))), some (.int (iI a)), some (.int (iI e)), some (.int (iI (btF f a e (dF f m dt 1) (oF f m 2))))]) rfl ?_)
                      refine k_iload (pc1 := 132) dX6_clashes_130 rfl rfl ?_
                      refine k_if_lt (a := (btF f a e (dF f m dt 1) (oF f m 2))) dX6_clashes_132 rfl (tgt := 168) rfl (by omega) (fun c132 : (btF f a e (dF f m dt 1) (oF f m 2)) < 0 => ?_) (fun c132 : ¬ (btF f a e (dF f m dt 1) (oF f m 2)) < 0 => ?_)
                      · skip
                        refine k_iconst (pc1 := 169) dX6_clashes_168 rfl ?_
                        exact k_iret dX6_clashes_169 rfl rfl (kret (kB_t ⟨a, e, hi2, (fun z => by first | exact c49 z.1 | exact c55 z.2), c66, (by first | exact Or.inl c72 | exact Or.inr c82), c101, (by first | exact Or.inl c132 | exact Or.inr ⟨c154, c165⟩)⟩).symm _)
                      · skip
                        have hr5 := kWf_room hW (r := dF f a e 3) (by omega) (by omega)
                        refine k_aload_n (pc1 := 136) dX6_clashes_135 rfl rfl ?_
                        refine k_get (pc1 := 139) dX6_clashes_136 rfl fd_RX6_7 hM.1 (v := .ref g) rfl ?_
                        refine k_bipush 9 (pc1 := 141) dX6_clashes_139 rfl (by decide) ?_
                        refine k_aload_n (pc1 := 142) dX6_clashes_141 rfl rfl ?_
                        refine k_iload (pc1 := 144) dX6_clashes_142 rfl rfl ?_
                        refine k_iload (pc1 := 146) dX6_clashes_144 rfl rfl ?_
                        refine k_iconst (pc1 := 147) dX6_clashes_146 rfl ?_
                        refine k_callVP dX6_clashes_147 rfl lk_RX6_45 o_X6_date (w_X6_date hl hM a e 3 (by omega) (by omega)) (as := [.int (iI a), .int (iI e), .int (iI 3)]) hM.1 rfl rfl rfl rfl (by decide) (by decide) (k8 rfl) ?_
                        refine k_iadd (a := 9) (b := (dF f a e 3)) (pc1 := 151) dX6_clashes_150 rfl ?_
                        refine k_iald (i := (9 + (dF f a e 3))) (f := f) (pc1 := 152) dX6_clashes_151 rfl hM.2.1 (N := 380) (by omega) (by omega) (by decide) (k_val (v' := .int (iI (f (9 + (dF f a e 3)).toNat))) rfl ?_)
                        refine k_iload (pc1 := 154) dX6_clashes_152 rfl rfl ?_
                        refine k_icmp_eq (a := (f (9 + (dF f a e 3)).toNat)) (b := (f (9 + (dF f m dt 3)).toNat)) dX6_clashes_154 rfl (tgt := 170) rfl (by omega) (by omega) (fun c154 : (f (9 + (dF f a e 3)).toNat) = (f (9 + (dF f m dt 3)).toNat) => ?_) (fun c154 : (f (9 + (dF f a e 3)).toNat) ≠ (f (9 + (dF f m dt 3)).toNat) => ?_)
                        · skip
                          refine k_iinc (a := e) (pc1 := 173) dX6_clashes_170 rfl rfl (by decide) (k_loc (L' := [some (.ref o), some (.int (iI m)), some (.int (iI dt)), some (.int (iI p)), some (.int (iI (f (9 + (dF f m dt 3)).toNat))), some (.int (iI a)), some (.int (iI (e + 1))), some (.int (iI (btF f a e (dF f m dt 1) (oF f m 2))))]) rfl ?_)
                          refine k_goto dX6_clashes_173 (tgt := 34) rfl ?_
                          refine k_forget 7 (k_loc (L' := [some (.ref o), some (.int (iI m)), some (.int (iI dt)), some (.int (iI p)), some (.int (iI (f (9 + (dF f m dt 3)).toNat))), some (.int (iI a)), some (.int (iI (e + 1))), none]) rfl ?_)
                          exact ih34 _ (by omega) (e + 1) rfl (by omega) (by omega) (alI_s hB he0 (fun z => by obtain ⟨z1, z2, z3, z4, z5⟩ := z; first | exact z1 ⟨c49, c55⟩ | exact c66 z2 | (rcases z3 with z3 | z3; exact c72 z3; exact c82 z3) | exact c101 z4 | (rcases z5 with z5 | ⟨z5, z6⟩; omega; first | exact z5 c154 | omega)))
                        · skip
                          refine k_iload (pc1 := 159) dX6_clashes_157 rfl rfl ?_
                          refine k_aload_n (pc1 := 160) dX6_clashes_159 rfl rfl ?_
                          refine k_get (pc1 := 163) dX6_clashes_160 rfl fd_RX6_7 hM.1 (v := .ref g) rfl ?_
                          refine k_iconst (pc1 := 164) dX6_clashes_163 rfl ?_
                          refine k_iald (i := 0) (f := f) (pc1 := 165) dX6_clashes_164 rfl hM.2.1 (N := 380) (by omega) (by omega) (by decide) (k_val (v' := .int (iI (f 0))) rfl ?_)
                          refine k_icmp_ge (a := (btF f a e (dF f m dt 1) (oF f m 2))) (b := (f 0)) dX6_clashes_165 rfl (tgt := 170) rfl (by omega) (by omega) (fun c165 : (f 0) ≤ (btF f a e (dF f m dt 1) (oF f m 2)) => ?_) (fun c165 : (btF f a e (dF f m dt 1) (oF f m 2)) < (f 0) => ?_)
                          · skip
                            refine k_iinc (a := e) (pc1 := 173) dX6_clashes_170 rfl rfl (by decide) (k_loc (L' := [some (.ref o), some (.int (iI m)), some (.int (iI dt)), some (.int (iI p)), some (.int (iI (f (9 + (dF f m dt 3)).toNat))), some (.int (iI a)), some (.int (iI (e + 1))), some (.int (iI (btF f a e (dF f m dt 1) (oF f m 2))))]) rfl ?_)
                            refine k_goto dX6_clashes_173 (tgt := 34) rfl ?_
                            refine k_forget 7 (k_loc (L' := [some (.ref o), some (.int (iI m)), some (.int (iI dt)), some (.int (iI p)), some (.int (iI (f (9 + (dF f m dt 3)).toNat))), some (.int (iI a)), some (.int (iI (e + 1))), none]) rfl ?_)
                            exact ih34 _ (by omega) (e + 1) rfl (by omega) (by omega) (alI_s hB he0 (fun z => by obtain ⟨z1, z2, z3, z4, z5⟩ := z; first | exact z1 ⟨c49, c55⟩ | exact c66 z2 | (rcases z3 with z3 | z3; exact c72 z3; exact c82 z3) | exact c101 z4 | (rcases z5 with z5 | ⟨z5, z6⟩; omega; first | exact z5 c154 | omega)))
                          · skip
                            refine k_iconst (pc1 := 169) dX6_clashes_168 rfl ?_
                            exact k_iret dX6_clashes_169 rfl rfl (kret (kB_t ⟨a, e, hi2, (fun z => by first | exact c49 z.1 | exact c55 z.2), c66, (by first | exact Or.inl c72 | exact Or.inr c82), c101, (by first | exact Or.inl c132 | exact Or.inr ⟨c154, c165⟩)⟩).symm _)
                    · skip
                      refine k_goto dX6_clashes_104 (tgt := 170) rfl ?_
                      refine k_iinc (a := e) (pc1 := 173) dX6_clashes_170 rfl rfl (by decide) (k_loc (L' := [some (.ref o), some (.int (iI m)), some (.int (iI dt)), some (.int (iI p)), some (.int (iI (f (9 + (dF f m dt 3)).toNat))), some (.int (iI a)), some (.int (iI (e + 1))), none]) rfl ?_)
                      refine k_goto dX6_clashes_173 (tgt := 34) rfl ?_
                      exact ih34 _ (by omega) (e + 1) rfl (by omega) (by omega) (alI_s hB he0 (fun z => by obtain ⟨z1, z2, z3, z4, z5⟩ := z; first | exact z1 ⟨c49, c55⟩ | exact c66 z2 | (rcases z3 with z3 | z3; exact c72 z3; exact c82 z3) | exact c101 z4 | (rcases z5 with z5 | ⟨z5, z6⟩; omega; first | exact z5 c154 | omega)))
      exact hloop34 _ 0 rfl (by omega) (by omega) hB
  exact hloop20 _ 0 rfl (by omega) (by omega) alI_0
theorem w_X6_meetsItself {l : Launch} {G : kG} {h : kAH} {o g r : Nat} {c wm wd : Int} {f : Nat → Int} (hl : l.stackTraces = false) (hM : kMd G h o g r c wm wd f) (m dt p : Int) (hW : kWf f) (hi : inP f m dt) (hp : 0 ≤ p ∧ p < 6) : kP l G m_X6_meetsItself 4 [.ref o, .int (iI m), .int (iI dt), .int (iI p)] h (.int (iI (kB (miF f m dt p)))) := by
  have h8 := kWf_cnt hW
  have hgp := kWf_gap hW
  obtain ⟨hm0, hm1, hd0, hd1⟩ := id hi
  have hmm := kWf_m hW hm0 hm1
  have hmd := kWf_d hW hm0 hm1 hd0 hd1
  refine kC_of hl rfl rfl (Nat.le_of_ble_eq_true rfl) (L := [some (.ref o), some (.int (iI m)), some (.int (iI dt)), some (.int (iI p)), none, none]) rfl ?_
  refine k_iconst (pc1 := 1) dX6_meetsItself_0 rfl ?_
  refine k_istore (pc1 := 3) dX6_meetsItself_1 rfl (by decide) (k_loc (L' := [some (.ref o), some (.int (iI m)), some (.int (iI dt)), some (.int (iI p)), some (.int (iI 0)), none]) rfl ?_)
  have hloop3 : ∀ (zz : Nat) (a : Int), zz = (f 1 - a).toNat → (0 ≤ a) → (a ≤ f 1) → (alI f (miP f m dt p) a 0) → kW l G m_X6_meetsItself 4 (kPq (.int (iI (kB (miF f m dt p)))) h) kNo 0 0 3 [some (.ref o), some (.int (iI m)), some (.int (iI dt)), some (.int (iI p)), some (.int (iI a)), none] [] h := by
    intro zz
    induction zz using Nat.strongRecOn with
    | ind zz ih3 =>
    intro a hr3 ha0 ha1 hB
    refine k_iload (pc1 := 5) dX6_meetsItself_3 rfl rfl ?_
    refine k_aload_n (pc1 := 6) dX6_meetsItself_5 rfl rfl ?_
    refine k_get (pc1 := 9) dX6_meetsItself_6 rfl fd_RX6_7 hM.1 (v := .ref g) rfl ?_
    refine k_iconst (pc1 := 10) dX6_meetsItself_9 rfl ?_
    refine k_iald (i := 1) (f := f) (pc1 := 11) dX6_meetsItself_10 rfl hM.2.1 (N := 380) (by omega) (by omega) (by decide) (k_val (v' := .int (iI (f 1))) rfl ?_)
    refine k_icmp_ge (a := a) (b := (f 1)) dX6_meetsItself_11 rfl (tgt := 122) rfl (by omega) (by omega) (fun c11 : (f 1) ≤ a => ?_) (fun c11 : a < (f 1) => ?_)
    · skip
      refine k_iconst (pc1 := 123) dX6_meetsItself_122 rfl ?_
      exact k_iret dX6_meetsItself_123 rfl rfl (kret (kB_f (alI_ex hB (by omega))).symm _)
    · skip
      have ha := kWf_m hW ha0 c11
      refine k_iconst (pc1 := 15) dX6_meetsItself_14 rfl ?_
      refine k_istore (pc1 := 17) dX6_meetsItself_15 rfl (by decide) (k_loc (L' := [some (.ref o), some (.int (iI m)), some (.int (iI dt)), some (.int (iI p)), some (.int (iI a)), some (.int (iI 0))]) rfl ?_)
      have hloop17 : ∀ (zz : Nat) (e : Int), zz = (oF f a 3 - e).toNat → (0 ≤ e) → (e ≤ oF f a 3) → (alI f (miP f m dt p) a e) → kW l G m_X6_meetsItself 4 (kPq (.int (iI (kB (miF f m dt p)))) h) kNo 0 0 17 [some (.ref o), some (.int (iI m)), some (.int (iI dt)), some (.int (iI p)), some (.int (iI a)), some (.int (iI e))] [] h := by
        intro zz
        induction zz using Nat.strongRecOn with
        | ind zz ih17 =>
        intro e hr17 he0 he1 hB
        refine k_iload (pc1 := 19) dX6_meetsItself_17 rfl rfl ?_
        refine k_aload_n (pc1 := 20) dX6_meetsItself_19 rfl rfl ?_
        refine k_iload (pc1 := 22) dX6_meetsItself_20 rfl rfl ?_
        refine k_iconst (pc1 := 23) dX6_meetsItself_22 rfl ?_
        refine k_callVP dX6_meetsItself_23 rfl lk_RX6_37 o_X6_of (w_X6_of hl hM a 3 (by omega) (by omega)) (as := [.int (iI a), .int (iI 3)]) hM.1 rfl rfl rfl rfl (by decide) (by decide) (k8 rfl) ?_
        refine k_icmp_ge (a := e) (b := (oF f a 3)) dX6_meetsItself_26 rfl (tgt := 116) rfl (by omega) (by omega) (fun c26 : (oF f a 3) ≤ e => ?_) (fun c26 : e < (oF f a 3) => ?_)
        · skip
          refine k_iinc (a := a) (pc1 := 119) dX6_meetsItself_116 rfl rfl (by decide) (k_loc (L' := [some (.ref o), some (.int (iI m)), some (.int (iI dt)), some (.int (iI p)), some (.int (iI (a + 1))), some (.int (iI e))]) rfl ?_)
          refine k_goto dX6_meetsItself_119 (tgt := 3) rfl ?_
          refine k_forget 5 (k_loc (L' := [some (.ref o), some (.int (iI m)), some (.int (iI dt)), some (.int (iI p)), some (.int (iI (a + 1))), none]) rfl ?_)
          exact ih3 _ (by omega) (a + 1) rfl (by omega) (by omega) (alI_n hB ha0 (by omega))
        · skip
          have hi2 : inP f a e := ⟨ha0, c11, he0, c26⟩
          have had := kWf_d hW ha0 c11 he0 c26
          refine k_iload (pc1 := 31) dX6_meetsItself_29 rfl rfl ?_
          refine k_iload_n (pc1 := 32) dX6_meetsItself_31 rfl rfl ?_
          refine k_icmp_ne (a := a) (b := m) dX6_meetsItself_32 rfl (tgt := 41) rfl (by omega) (by omega) (fun c32 : a ≠ m => ?_) (fun c32 : a = m => ?_)
          · skip
            refine k_aload_n (pc1 := 42) dX6_meetsItself_41 rfl rfl ?_
            refine k_iload (pc1 := 44) dX6_meetsItself_42 rfl rfl ?_
            refine k_iload (pc1 := 46) dX6_meetsItself_44 rfl rfl ?_
            refine k_callVP dX6_meetsItself_46 rfl lk_RX6_49 o_X6_isOn (w_X6_isOn hl hM a e hW ⟨by omega, by omega, by omega, by omega⟩) (as := [.int (iI a), .int (iI e)]) hM.1 rfl rfl rfl rfl (by decide) (by decide) (k8 rfl) ?_
            refine k_if_eq (a := kB (onF f a e)) dX6_meetsItself_49 rfl (tgt := 110) rfl (kB_r _) (fun c49 : kB (onF f a e) = 0 => ?_) (fun c49 : kB (onF f a e) ≠ 0 => ?_)
            · replace c49 : ¬(onF f a e) := kB_z.mp c49
              refine k_iinc (a := e) (pc1 := 113) dX6_meetsItself_110 rfl rfl (by decide) (k_loc (L' := [some (.ref o), some (.int (iI m)), some (.int (iI dt)), some (.int (iI p)), some (.int (iI a)), some (.int (iI (e + 1)))]) rfl ?_)
              refine k_goto dX6_meetsItself_113 (tgt := 17) rfl ?_
              exact ih17 _ (by omega) (e + 1) rfl (by omega) (by omega) (alI_s hB he0 (fun z => by obtain ⟨z1, z2, z3, z4, z5⟩ := z; first | exact z1 ⟨c32, c38⟩ | exact c49 z2 | exact c59 z3 | exact c78 z4 | omega))
            · replace c49 : (onF f a e) := kB_nz.mp c49
              refine k_aload_n (pc1 := 53) dX6_meetsItself_52 rfl rfl ?_
              refine k_iload (pc1 := 55) dX6_meetsItself_53 rfl rfl ?_
              refine k_iload_n (pc1 := 56) dX6_meetsItself_55 rfl rfl ?_
              refine k_callVP dX6_meetsItself_56 rfl lk_RX6_41 o_X6_isExpected (w_X6_isExpected hl hM a p hW (by omega) (by omega) (by omega) (by omega)) (as := [.int (iI a), .int (iI p)]) hM.1 rfl rfl rfl rfl (by decide) (by decide) (k8 rfl) ?_
              refine k_if_eq (a := kB (exF f a p)) dX6_meetsItself_59 rfl (tgt := 110) rfl (kB_r _) (fun c59 : kB (exF f a p) = 0 => ?_) (fun c59 : kB (exF f a p) ≠ 0 => ?_)
              · replace c59 : ¬(exF f a p) := kB_z.mp c59
                refine k_iinc (a := e) (pc1 := 113) dX6_meetsItself_110 rfl rfl (by decide) (k_loc (L' := [some (.ref o), some (.int (iI m)), some (.int (iI dt)), some (.int (iI p)), some (.int (iI a)), some (.int (iI (e + 1)))]) rfl ?_)
                refine k_goto dX6_meetsItself_113 (tgt := 17) rfl ?_
                exact ih17 _ (by omega) (e + 1) rfl (by omega) (by omega) (alI_s hB he0 (fun z => by obtain ⟨z1, z2, z3, z4, z5⟩ := z; first | exact z1 ⟨c32, c38⟩ | exact c49 z2 | exact c59 z3 | exact c78 z4 | omega))
              · replace c59 : (exF f a p) := kB_nz.mp c59
                refine k_aload_n (pc1 := 63) dX6_meetsItself_62 rfl rfl ?_
                refine k_iload (pc1 := 65) dX6_meetsItself_63 rfl rfl ?_
                refine k_iload (pc1 := 67) dX6_meetsItself_65 rfl rfl ?_
                refine k_iconst (pc1 := 68) dX6_meetsItself_67 rfl ?_
                refine k_callVP dX6_meetsItself_68 rfl lk_RX6_45 o_X6_date (w_X6_date hl hM a e 0 (by omega) (by omega)) (as := [.int (iI a), .int (iI e), .int (iI 0)]) hM.1 rfl rfl rfl rfl (by decide) (by decide) (k8 rfl) ?_
                refine k_aload_n (pc1 := 72) dX6_meetsItself_71 rfl rfl ?_
                refine k_iload_n (pc1 := 73) dX6_meetsItself_72 rfl rfl ?_
                refine k_iload_n (pc1 := 74) dX6_meetsItself_73 rfl rfl ?_
                refine k_iconst (pc1 := 75) dX6_meetsItself_74 rfl ?_
                refine k_callVP dX6_meetsItself_75 rfl lk_RX6_45 o_X6_date (w_X6_date hl hM m dt 0 (by omega) (by omega)) (as := [.int (iI m), .int (iI dt), .int (iI 0)]) hM.1 rfl rfl rfl rfl (by decide) (by decide) (k8 rfl) ?_
                refine k_icmp_eq (a := (dF f a e 0)) (b := (dF f m dt 0)) dX6_meetsItself_78 rfl (tgt := 84) rfl (by omega) (by omega) (fun c78 : (dF f a e 0) = (dF f m dt 0) => ?_) (fun c78 : (dF f a e 0) ≠ (dF f m dt 0) => ?_)
                · skip
                  have hbr := btF_r (t := dF f m dt 1) (n := oF f m 2) hW hi2 ⟨by omega, by omega⟩ ⟨by omega, by omega⟩
                  refine k_aload_n (pc1 := 85) dX6_meetsItself_84 rfl rfl ?_
                  refine k_iload (pc1 := 87) dX6_meetsItself_85 rfl rfl ?_
                  refine k_iload (pc1 := 89) dX6_meetsItself_87 rfl rfl ?_
                  refine k_aload_n (pc1 := 90) dX6_meetsItself_89 rfl rfl ?_
                  refine k_iload_n (pc1 := 91) dX6_meetsItself_90 rfl rfl ?_
                  refine k_iload_n (pc1 := 92) dX6_meetsItself_91 rfl rfl ?_
                  refine k_iconst (pc1 := 93) dX6_meetsItself_92 rfl ?_
                  refine k_callVP dX6_meetsItself_93 rfl lk_RX6_45 o_X6_date (w_X6_date hl hM m dt 1 (by omega) (by omega)) (as := [.int (iI m), .int (iI dt), .int (iI 1)]) hM.1 rfl rfl rfl rfl (by decide) (by decide) (k8 rfl) ?_
                  refine k_aload_n (pc1 := 97) dX6_meetsItself_96 rfl rfl ?_
                  refine k_iload_n (pc1 := 98) dX6_meetsItself_97 rfl rfl ?_
                  refine k_iconst (pc1 := 99) dX6_meetsItself_98 rfl ?_
                  refine k_callVP dX6_meetsItself_99 rfl lk_RX6_37 o_X6_of (w_X6_of hl hM m 2 (by omega) (by omega)) (as := [.int (iI m), .int (iI 2)]) hM.1 rfl rfl rfl rfl (by decide) (by decide) (k8 rfl) ?_
                  refine k_callVP dX6_meetsItself_102 rfl lk_RX6_55 o_X6_between (w_X6_between hl hM a e (dF f m dt 1) (oF f m 2) hW ⟨by omega, by omega, by omega, by omega⟩ ⟨by omega, by omega⟩ ⟨by omega, by omega⟩) (as := [.int (iI a), .int (iI e), .int (iI (dF f m dt 1)), .int (iI (oF f m 2))]) hM.1 rfl rfl rfl rfl (by decide) (by decide) (k8 rfl) ?_
                  refine k_if_ge (a := (btF f a e (dF f m dt 1) (oF f m 2))) dX6_meetsItself_105 rfl (tgt := 110) rfl (by omega) (fun c105 : 0 ≤ (btF f a e (dF f m dt 1) (oF f m 2)) => ?_) (fun c105 : (btF f a e (dF f m dt 1) (oF f m 2)) < 0 => ?_)
                  · skip
                    refine k_iinc (a := e) (pc1 := 113) dX6_meetsItself_110 rfl rfl (by decide) (k_loc (L' := [some (.ref o), some (.int (iI m)), some (.int (iI dt)), some (.int (iI p)), some (.int (iI a)), some (.int (iI (e + 1)))]) rfl ?_)
                    refine k_goto dX6_meetsItself_113 (tgt := 17) rfl ?_
                    exact ih17 _ (by omega) (e + 1) rfl (by omega) (by omega) (alI_s hB he0 (fun z => by obtain ⟨z1, z2, z3, z4, z5⟩ := z; first | exact z1 ⟨c32, c38⟩ | exact c49 z2 | exact c59 z3 | exact c78 z4 | omega))
                  · skip
                    refine k_iconst (pc1 := 109) dX6_meetsItself_108 rfl ?_
                    exact k_iret dX6_meetsItself_109 rfl rfl (kret (kB_t ⟨a, e, hi2, (fun z => by first | exact c32 z.1 | exact c38 z.2), c49, c59, c78, c105⟩).symm _)
                · skip
                  refine k_goto dX6_meetsItself_81 (tgt := 110) rfl ?_
                  refine k_iinc (a := e) (pc1 := 113) dX6_meetsItself_110 rfl rfl (by decide) (k_loc (L' := [some (.ref o), some (.int (iI m)), some (.int (iI dt)), some (.int (iI p)), some (.int (iI a)), some (.int (iI (e + 1)))]) rfl ?_)
                  refine k_goto dX6_meetsItself_113 (tgt := 17) rfl ?_
                  exact ih17 _ (by omega) (e + 1) rfl (by omega) (by omega) (alI_s hB he0 (fun z => by obtain ⟨z1, z2, z3, z4, z5⟩ := z; first | exact z1 ⟨c32, c38⟩ | exact c49 z2 | exact c59 z3 | exact c78 z4 | omega))
          · skip
            refine k_iload (pc1 := 37) dX6_meetsItself_35 rfl rfl ?_
            refine k_iload_n (pc1 := 38) dX6_meetsItself_37 rfl rfl ?_
            refine k_icmp_eq (a := e) (b := dt) dX6_meetsItself_38 rfl (tgt := 110) rfl (by omega) (by omega) (fun c38 : e = dt => ?_) (fun c38 : e ≠ dt => ?_)
            · skip
              refine k_iinc (a := e) (pc1 := 113) dX6_meetsItself_110 rfl rfl (by decide) (k_loc (L' := [some (.ref o), some (.int (iI m)), some (.int (iI dt)), some (.int (iI p)), some (.int (iI a)), some (.int (iI (e + 1)))]) rfl ?_)
              refine k_goto dX6_meetsItself_113 (tgt := 17) rfl ?_
              exact ih17 _ (by omega) (e + 1) rfl (by omega) (by omega) (alI_s hB he0 (fun z => by obtain ⟨z1, z2, z3, z4, z5⟩ := z; first | exact z1 ⟨c32, c38⟩ | exact c49 z2 | exact c59 z3 | exact c78 z4 | omega))
            · skip
              refine k_aload_n (pc1 := 42) dX6_meetsItself_41 rfl rfl ?_
              refine k_iload (pc1 := 44) dX6_meetsItself_42 rfl rfl ?_
              refine k_iload (pc1 := 46) dX6_meetsItself_44 rfl rfl ?_
              refine k_callVP dX6_meetsItself_46 rfl lk_RX6_49 o_X6_isOn (w_X6_isOn hl hM a e hW ⟨by omega, by omega, by omega, by omega⟩) (as := [.int (iI a), .int (iI e)]) hM.1 rfl rfl rfl rfl (by decide) (by decide) (k8 rfl) ?_
              refine k_if_eq (a := kB (onF f a e)) dX6_meetsItself_49 rfl (tgt := 110) rfl (kB_r _) (fun c49 : kB (onF f a e) = 0 => ?_) (fun c49 : kB (onF f a e) ≠ 0 => ?_)
              · replace c49 : ¬(onF f a e) := kB_z.mp c49
                refine k_iinc (a := e) (pc1 := 113) dX6_meetsItself_110 rfl rfl (by decide) (k_loc (L' := [some (.ref o), some (.int (iI m)), some (.int (iI dt)), some (.int (iI p)), some (.int (iI a)), some (.int (iI (e + 1)))]) rfl ?_)
                refine k_goto dX6_meetsItself_113 (tgt := 17) rfl ?_
                exact ih17 _ (by omega) (e + 1) rfl (by omega) (by omega) (alI_s hB he0 (fun z => by obtain ⟨z1, z2, z3, z4, z5⟩ := z; first | exact z1 ⟨c32, c38⟩ | exact c49 z2 | exact c59 z3 | exact c78 z4 | omega))
              · replace c49 : (onF f a e) := kB_nz.mp c49
                refine k_aload_n (pc1 := 53) dX6_meetsItself_52 rfl rfl ?_
                refine k_iload (pc1 := 55) dX6_meetsItself_53 rfl rfl ?_
                refine k_iload_n (pc1 := 56) dX6_meetsItself_55 rfl rfl ?_
                refine k_callVP dX6_meetsItself_56 rfl lk_RX6_41 o_X6_isExpected (w_X6_isExpected hl hM a p hW (by omega) (by omega) (by omega) (by omega)) (as := [.int (iI a), .int (iI p)]) hM.1 rfl rfl rfl rfl (by decide) (by decide) (k8 rfl) ?_
                refine k_if_eq (a := kB (exF f a p)) dX6_meetsItself_59 rfl (tgt := 110) rfl (kB_r _) (fun c59 : kB (exF f a p) = 0 => ?_) (fun c59 : kB (exF f a p) ≠ 0 => ?_)
                · replace c59 : ¬(exF f a p) := kB_z.mp c59
                  refine k_iinc (a := e) (pc1 := 113) dX6_meetsItself_110 rfl rfl (by decide) (k_loc (L' := [some (.ref o), some (.int (iI m)), some (.int (iI dt)), some (.int (iI p)), some (.int (iI a)), some (.int (iI (e + 1)))]) rfl ?_)
                  refine k_goto dX6_meetsItself_113 (tgt := 17) rfl ?_
                  exact ih17 _ (by omega) (e + 1) rfl (by omega) (by omega) (alI_s hB he0 (fun z => by obtain ⟨z1, z2, z3, z4, z5⟩ := z; first | exact z1 ⟨c32, c38⟩ | exact c49 z2 | exact c59 z3 | exact c78 z4 | omega))
                · replace c59 : (exF f a p) := kB_nz.mp c59
                  refine k_aload_n (pc1 := 63) dX6_meetsItself_62 rfl rfl ?_
                  refine k_iload (pc1 := 65) dX6_meetsItself_63 rfl rfl ?_
                  refine k_iload (pc1 := 67) dX6_meetsItself_65 rfl rfl ?_
                  refine k_iconst (pc1 := 68) dX6_meetsItself_67 rfl ?_
                  refine k_callVP dX6_meetsItself_68 rfl lk_RX6_45 o_X6_date (w_X6_date hl hM a e 0 (by omega) (by omega)) (as := [.int (iI a), .int (iI e), .int (iI 0)]) hM.1 rfl rfl rfl rfl (by decide) (by decide) (k8 rfl) ?_
                  refine k_aload_n (pc1 := 72) dX6_meetsItself_71 rfl rfl ?_
                  refine k_iload_n (pc1 := 73) dX6_meetsItself_72 rfl rfl ?_
                  refine k_iload_n (pc1 := 74) dX6_meetsItself_73 rfl rfl ?_
                  refine k_iconst (pc1 := 75) dX6_meetsItself_74 rfl ?_
                  refine k_callVP dX6_meetsItself_75 rfl lk_RX6_45 o_X6_date (w_X6_date hl hM m dt 0 (by omega) (by omega)) (as := [.int (iI m), .int (iI dt), .int (iI 0)]) hM.1 rfl rfl rfl rfl (by decide) (by decide) (k8 rfl) ?_
                  refine k_icmp_eq (a := (dF f a e 0)) (b := (dF f m dt 0)) dX6_meetsItself_78 rfl (tgt := 84) rfl (by omega) (by omega) (fun c78 : (dF f a e 0) = (dF f m dt 0) => ?_) (fun c78 : (dF f a e 0) ≠ (dF f m dt 0) => ?_)
                  · skip
                    have hbr := btF_r (t := dF f m dt 1) (n := oF f m 2) hW hi2 ⟨by omega, by omega⟩ ⟨by omega, by omega⟩
                    refine k_aload_n (pc1 := 85) dX6_meetsItself_84 rfl rfl ?_
                    refine k_iload (pc1 := 87) dX6_meetsItself_85 rfl rfl ?_
                    refine k_iload (pc1 := 89) dX6_meetsItself_87 rfl rfl ?_
                    refine k_aload_n (pc1 := 90) dX6_meetsItself_89 rfl rfl ?_
                    refine k_iload_n (pc1 := 91) dX6_meetsItself_90 rfl rfl ?_
                    refine k_iload_n (pc1 := 92) dX6_meetsItself_91 rfl rfl ?_
                    refine k_iconst (pc1 := 93) dX6_meetsItself_92 rfl ?_
                    refine k_callVP dX6_meetsItself_93 rfl lk_RX6_45 o_X6_date (w_X6_date hl hM m dt 1 (by omega) (by omega)) (as := [.int (iI m), .int (iI dt), .int (iI 1)]) hM.1 rfl rfl rfl rfl (by decide) (by decide) (k8 rfl) ?_
                    refine k_aload_n (pc1 := 97) dX6_meetsItself_96 rfl rfl ?_
                    refine k_iload_n (pc1 := 98) dX6_meetsItself_97 rfl rfl ?_
                    refine k_iconst (pc1 := 99) dX6_meetsItself_98 rfl ?_
                    refine k_callVP dX6_meetsItself_99 rfl lk_RX6_37 o_X6_of (w_X6_of hl hM m 2 (by omega) (by omega)) (as := [.int (iI m), .int (iI 2)]) hM.1 rfl rfl rfl rfl (by decide) (by decide) (k8 rfl) ?_
                    refine k_callVP dX6_meetsItself_102 rfl lk_RX6_55 o_X6_between (w_X6_between hl hM a e (dF f m dt 1) (oF f m 2) hW ⟨by omega, by omega, by omega, by omega⟩ ⟨by omega, by omega⟩ ⟨by omega, by omega⟩) (as := [.int (iI a), .int (iI e), .int (iI (dF f m dt 1)), .int (iI (oF f m 2))]) hM.1 rfl rfl rfl rfl (by decide) (by decide) (k8 rfl) ?_
                    refine k_if_ge (a := (btF f a e (dF f m dt 1) (oF f m 2))) dX6_meetsItself_105 rfl (tgt := 110) rfl (by omega) (fun c105 : 0 ≤ (btF f a e (dF f m dt 1) (oF f m 2)) => ?_) (fun c105 : (btF f a e (dF f m dt 1) (oF f m 2)) < 0 => ?_)
                    · skip
                      refine k_iinc (a := e) (pc1 := 113) dX6_meetsItself_110 rfl rfl (by decide) (k_loc (L' := [some (.ref o), some (.int (iI m)), some (.int (iI dt)), some (.int (iI p)), some (.int (iI a)), some (.int (iI (e + 1)))]) rfl ?_)
                      refine k_goto dX6_meetsItself_113 (tgt := 17) rfl ?_
                      exact ih17 _ (by omega) (e + 1) rfl (by omega) (by omega) (alI_s hB he0 (fun z => by obtain ⟨z1, z2, z3, z4, z5⟩ := z; first | exact z1 ⟨c32, c38⟩ | exact c49 z2 | exact c59 z3 | exact c78 z4 | omega))
                    · skip
                      refine k_iconst (pc1 := 109) dX6_meetsItself_108 rfl ?_
                      exact k_iret dX6_meetsItself_109 rfl rfl (kret (kB_t ⟨a, e, hi2, (fun z => by first | exact c32 z.1 | exact c38 z.2), c49, c59, c78, c105⟩).symm _)
                  · skip
                    refine k_goto dX6_meetsItself_81 (tgt := 110) rfl ?_
                    refine k_iinc (a := e) (pc1 := 113) dX6_meetsItself_110 rfl rfl (by decide) (k_loc (L' := [some (.ref o), some (.int (iI m)), some (.int (iI dt)), some (.int (iI p)), some (.int (iI a)), some (.int (iI (e + 1)))]) rfl ?_)
                    refine k_goto dX6_meetsItself_113 (tgt := 17) rfl ?_
                    exact ih17 _ (by omega) (e + 1) rfl (by omega) (by omega) (alI_s hB he0 (fun z => by obtain ⟨z1, z2, z3, z4, z5⟩ := z; first | exact z1 ⟨c32, c38⟩ | exact c49 z2 | exact c59 z3 | exact c78 z4 | omega))
      exact hloop17 _ 0 rfl (by omega) (by omega) hB
  exact hloop3 _ 0 rfl (by omega) (by omega) alI_0
theorem w_X6_isFreeAt {l : Launch} {G : kG} {h : kAH} {o g r : Nat} {c : Int} {f : Nat → Int} (hl : l.stackTraces = false) (hM : kMd G h o g r c (-1) (-1) f) (p k t : Int) (hW : kWf f) (hp : 0 ≤ p ∧ p < 6) (hk : 0 ≤ k ∧ k < 28) (ht : 0 ≤ t ∧ t < 16) : kP l G m_X6_isFreeAt 6 [.ref o, .int (iI p), .int (iI k), .int (iI t)] h (.int (iI (kB (frF f p k t)))) := by
  have hwm : -1 ≤ (-1 : Int) ∧ (-1 : Int) < 8 := by decide
  have hwd : -1 ≤ (-1 : Int) ∧ (-1 : Int) < 6 := by decide
  have hq : 2 ^ p.toNat < 64 := k2p_lt (by omega)
  refine kC_of hl rfl rfl (Nat.le_of_ble_eq_true rfl) (L := [some (.ref o), some (.int (iI p)), some (.int (iI k)), some (.int (iI t))]) rfl ?_
  refine k_aload_n (pc1 := 1) dX6_isFreeAt_0 rfl rfl ?_
  refine k_iconst (pc1 := 2) dX6_isFreeAt_1 rfl ?_
  refine k_iload_n (pc1 := 3) dX6_isFreeAt_2 rfl rfl ?_
  refine k_ishl (pc1 := 4) dX6_isFreeAt_3 rfl (k_val (v' := .int (iI (((2 ^ p.toNat) : Nat) : Int))) (congrArg Value.int (iI_sh1i (by omega) (by omega))) ?_)
  refine k_iload_n (pc1 := 5) dX6_isFreeAt_4 rfl rfl ?_
  refine k_iload_n (pc1 := 6) dX6_isFreeAt_5 rfl rfl ?_
  refine k_iconst (pc1 := 7) dX6_isFreeAt_6 rfl ?_
  refine k_callVP dX6_isFreeAt_7 rfl lk_RX6_83 o_X6_busy (w_X6_busy hl hM (2 ^ p.toNat) k t 1 (by first | omega | exact kmk_lt _ _ | assumption) hW hwm hwd ⟨by omega, by omega⟩ ⟨by omega, by omega⟩ ⟨by omega, by omega⟩ ) (as := [.int (iI (((2 ^ p.toNat) : Nat) : Int)), .int (iI k), .int (iI t), .int (iI 1)]) hM.1 rfl rfl rfl rfl (by decide) (by decide) (k8 rfl) ?_
  have hbr := bsyF_r f (-1) (-1) (2 ^ p.toNat) k t 1
  refine k_if_ge (a := (bsyF f (-1) (-1) (2 ^ p.toNat) k t 1)) dX6_isFreeAt_10 rfl (tgt := 17) rfl (by omega) (fun c10 : 0 ≤ (bsyF f (-1) (-1) (2 ^ p.toNat) k t 1) => ?_) (fun c10 : (bsyF f (-1) (-1) (2 ^ p.toNat) k t 1) < 0 => ?_)
  · skip
    refine k_iconst (pc1 := 18) dX6_isFreeAt_17 rfl ?_
    exact k_iret dX6_isFreeAt_18 rfl rfl (kret (kB_f (by unfold frF; omega)).symm _)
  · skip
    refine k_iconst (pc1 := 14) dX6_isFreeAt_13 rfl ?_
    refine k_goto dX6_isFreeAt_14 (tgt := 18) rfl ?_
    exact k_iret dX6_isFreeAt_18 rfl rfl (kret (kB_t (by unfold frF; omega)).symm _)
theorem w_X6_isNoTime {l : Launch} {G : kG} {h : kAH} (hl : l.stackTraces = false) (a b e : Int) (ra : -2147483648 ≤ a ∧ a < 2147483648) (rb : -2147483648 ≤ b ∧ b < 2147483648) (re : -2147483648 ≤ e ∧ e < 2147483648) : kP l G m_X6_isNoTime 3 [.int (iI a), .int (iI b), .int (iI e)] h (.int (iI (kB (¬(0 ≤ a ∧ a ≤ 5) ∨ ¬(0 ≤ b ∧ b ≤ 27) ∨ ¬(0 ≤ e ∧ e ≤ 15))))) := by
  refine kC_of hl rfl rfl (Nat.le_of_ble_eq_true rfl) (L := [some (.int (iI a)), some (.int (iI b)), some (.int (iI e))]) rfl ?_
  refine k_iload_n (pc1 := 1) dX6_isNoTime_0 rfl rfl ?_
  refine k_callSP dX6_isNoTime_1 rfl lk_RX6_74 o_X6_isPerson (w_X6_isPerson hl a (by omega)) (as := [.int (iI a)]) rfl rfl rfl (by decide) (by decide) (k8 rfl) ?_
  refine k_if_eq (a := kB (0 ≤ a ∧ a ≤ 5)) dX6_isNoTime_4 rfl (tgt := 21) rfl (kB_r _) (fun c4 : kB (0 ≤ a ∧ a ≤ 5) = 0 => ?_) (fun c4 : kB (0 ≤ a ∧ a ≤ 5) ≠ 0 => ?_)
  · replace c4 : ¬(0 ≤ a ∧ a ≤ 5) := kB_z.mp c4
    refine k_iconst (pc1 := 22) dX6_isNoTime_21 rfl ?_
    refine k_goto dX6_isNoTime_22 (tgt := 26) rfl ?_
    exact k_iret dX6_isNoTime_26 rfl rfl (kret (kB_t (by omega)).symm _)
  · replace c4 : (0 ≤ a ∧ a ≤ 5) := kB_nz.mp c4
    refine k_iload_n (pc1 := 8) dX6_isNoTime_7 rfl rfl ?_
    refine k_callSP dX6_isNoTime_8 rfl lk_RX6_77 o_X6_isDay (w_X6_isDay hl b (by omega)) (as := [.int (iI b)]) rfl rfl rfl (by decide) (by decide) (k8 rfl) ?_
    refine k_if_eq (a := kB (0 ≤ b ∧ b ≤ 27)) dX6_isNoTime_11 rfl (tgt := 21) rfl (kB_r _) (fun c11 : kB (0 ≤ b ∧ b ≤ 27) = 0 => ?_) (fun c11 : kB (0 ≤ b ∧ b ≤ 27) ≠ 0 => ?_)
    · replace c11 : ¬(0 ≤ b ∧ b ≤ 27) := kB_z.mp c11
      refine k_iconst (pc1 := 22) dX6_isNoTime_21 rfl ?_
      refine k_goto dX6_isNoTime_22 (tgt := 26) rfl ?_
      exact k_iret dX6_isNoTime_26 rfl rfl (kret (kB_t (by omega)).symm _)
    · replace c11 : (0 ≤ b ∧ b ≤ 27) := kB_nz.mp c11
      refine k_iload_n (pc1 := 15) dX6_isNoTime_14 rfl rfl ?_
      refine k_callSP dX6_isNoTime_15 rfl lk_RX6_80 o_X6_isTime (w_X6_isTime hl e (by omega)) (as := [.int (iI e)]) rfl rfl rfl (by decide) (by decide) (k8 rfl) ?_
      refine k_if_ne (a := kB (0 ≤ e ∧ e ≤ 15)) dX6_isNoTime_18 rfl (tgt := 25) rfl (kB_r _) (fun c18 : kB (0 ≤ e ∧ e ≤ 15) ≠ 0 => ?_) (fun c18 : kB (0 ≤ e ∧ e ≤ 15) = 0 => ?_)
      · replace c18 : (0 ≤ e ∧ e ≤ 15) := kB_nz.mp c18
        refine k_iconst (pc1 := 26) dX6_isNoTime_25 rfl ?_
        exact k_iret dX6_isNoTime_26 rfl rfl (kret (kB_f (by omega)).symm _)
      · replace c18 : ¬(0 ≤ e ∧ e ≤ 15) := kB_z.mp c18
        refine k_iconst (pc1 := 22) dX6_isNoTime_21 rfl ?_
        refine k_goto dX6_isNoTime_22 (tgt := 26) rfl ?_
        exact k_iret dX6_isNoTime_26 rfl rfl (kret (kB_t (by omega)).symm _)
theorem w_X6_roomFound {l : Launch} {G : kG} {h : kAH} {o g r : Nat} {c : Int} {f : Nat → Int} (hl : l.stackTraces = false) (hM : kMd G h o g r c (-1) (-1) f) (q : Nat) (n k t : Int) (hq : q < 64) (hW : kWf f) (hk : 0 ≤ k ∧ k < 28) (ht : 0 ≤ t ∧ t < 16) (hn : 1 ≤ n ∧ n ≤ 6)  : kP l G m_X6_roomFound 7 [.ref o, .int (iI ((q : Nat) : Int)), .int (iI n), .int (iI k), .int (iI t)] h (.int (iI (rmF f q k t n))) := by
  have hwm : -1 ≤ (-1 : Int) ∧ (-1 : Int) < 8 := by decide
  have hwd : -1 ≤ (-1 : Int) ∧ (-1 : Int) < 6 := by decide
  refine kC_of hl rfl rfl (Nat.le_of_ble_eq_true rfl) (L := [some (.ref o), some (.int (iI ((q : Nat) : Int))), some (.int (iI n)), some (.int (iI k)), some (.int (iI t))]) rfl ?_
  refine k_aload_n (pc1 := 1) dX6_roomFound_0 rfl rfl ?_
  refine k_iload_n (pc1 := 2) dX6_roomFound_1 rfl rfl ?_
  refine k_iload_n (pc1 := 3) dX6_roomFound_2 rfl rfl ?_
  refine k_iload (pc1 := 5) dX6_roomFound_3 rfl rfl ?_
  refine k_iload_n (pc1 := 6) dX6_roomFound_5 rfl rfl ?_
  refine k_callVP dX6_roomFound_6 rfl lk_RX6_83 o_X6_busy (w_X6_busy hl hM q k t n (by first | omega | exact kmk_lt _ _ | assumption) hW hwm hwd ⟨by omega, by omega⟩ ⟨by omega, by omega⟩ ⟨by omega, by omega⟩ ) (as := [.int (iI ((q : Nat) : Int)), .int (iI k), .int (iI t), .int (iI n)]) hM.1 rfl rfl rfl rfl (by decide) (by decide) (k8 rfl) ?_
  have hbr := bsyF_r f (-1) (-1) q k t n
  refine k_if_lt (a := (bsyF f (-1) (-1) q k t n)) dX6_roomFound_9 rfl (tgt := 16) rfl (by omega) (fun c9 : (bsyF f (-1) (-1) q k t n) < 0 => ?_) (fun c9 : ¬ (bsyF f (-1) (-1) q k t n) < 0 => ?_)
  · skip
    refine k_aload_n (pc1 := 17) dX6_roomFound_16 rfl rfl ?_
    refine k_iload_n (pc1 := 18) dX6_roomFound_17 rfl rfl ?_
    refine k_iload_n (pc1 := 19) dX6_roomFound_18 rfl rfl ?_
    refine k_iload (pc1 := 21) dX6_roomFound_19 rfl rfl ?_
    refine k_iload_n (pc1 := 22) dX6_roomFound_21 rfl rfl ?_
    refine k_callVP dX6_roomFound_22 rfl lk_RX6_89 o_X6_smallest (w_X6_smallest hl hM q k t n (by first | omega | exact kmk_lt _ _ | assumption) hW hwm hwd ⟨by omega, by omega⟩ ⟨by omega, by omega⟩ ⟨by omega, by omega⟩ ) (as := [.int (iI ((q : Nat) : Int)), .int (iI k), .int (iI t), .int (iI n)]) hM.1 rfl rfl rfl rfl (by decide) (by decide) (k8 rfl) ?_
    exact k_iret dX6_roomFound_25 rfl rfl (kret (by unfold rmF; first | exact (kI_t (by omega)).symm | exact (kI_f (by omega)).symm) _)
  · skip
    refine k_iconst (pc1 := 13) dX6_roomFound_12 rfl ?_
    refine k_goto dX6_roomFound_13 (tgt := 25) rfl ?_
    exact k_iret dX6_roomFound_25 rfl rfl (kret (by unfold rmF; first | exact (kI_t (by omega)).symm | exact (kI_f (by omega)).symm) _)
