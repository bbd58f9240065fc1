/-! ===== the class: clashes, best rooms, the date of a person, walked ===== -/
theorem rp_exp {G : kG} {h : kAH} {pl : Nat} {γ : kGh} {A : kAb} {f : Nat → Int} (q : kRp G h pl γ A f) {m p : Int} (h0 : 0 ≤ m) (h1 : m < f 1) (hp : 0 ≤ p ∧ p < 6) : (exM (oF f m 1) (aAk A (oF f m 0)) (aNo A (oF f m 0))).testBit p.toNat = true ↔ exF f m p := by
  obtain ⟨i, rfl⟩ := Int.eq_ofNat_of_zero_le hp.1
  rw [rp_ex q h0 h1]
  exact ppF_bit (by omega)
theorem rp_exa {G : kG} {h : kAH} {pl : Nat} {γ : kGh} {A : kAb} {f : Nat → Int} (q : kRp G h pl γ A f) {m : Int} {s : Nat} (h0 : 0 ≤ m) (h1 : m < f 1) : ((kan (exM (oF f m 1) (aAk A (oF f m 0)) (aNo A (oF f m 0))) s : Nat) : Int) ≠ 0 ↔ ∃ p : Nat, p < 6 ∧ exF f m (p : Int) ∧ s.testBit p = true := by
  rw [rp_ex q h0 h1]
  exact ppF_and
theorem ma_iff {f : Nat → Int} (hW : kWf f) {p k t m d : Int} (hi : inP f m d) (ho : onF f m d) (hk : dF f m d 0 = k) : maP f p k t m d ↔ exF f m p ∧ dF f m d 1 ≤ t ∧ t < dF f m d 1 + oF f m 2 := by
  have g := kWf_m hW hi.1 hi.2.1
  constructor
  · intro z
    exact ⟨z.1, maP_t hW hi z⟩
  · rintro ⟨z1, z2, z3⟩
    exact ⟨z1, ⟨ho, hk, fun z => absurd hi.1 (by omega)⟩, btF_neg.mpr (by omega)⟩
theorem w_wouldC {l : Launch} {G : kG} {h : kAH} (hl : l.stackTraces = false) {pl : Nat} {γ : kGh} {A : kAb} {f : Nat → Int} (hC : kRp G h pl γ A f) {qq : Nat} (hqq : qq < 64) {jo : Option Nat} {jm : Int} (hjo : kJo γ f jo jm) {rm : Int} (hr : 0 ≤ rm ∧ rm < 4) {s : Nat} {k t n : Int} (hS : h s = some (.inr (8, [.int (iI k), .int (iI t), .int (iI n)]))) (hk : 0 ≤ k ∧ k < 28) (ht : 0 ≤ t ∧ t < 16) (hn : 1 ≤ n ∧ n ≤ 6) {lo : Option Nat} {wm wd : Int} (hlo : kLv γ f lo wm wd) : kC l G m_X5_wouldClash 4 0 0 [.ref pl, .int (iI ((qq : Nat) : Int)), va_rf jo, .ref s, .ref (gRm γ rm), va_rf lo] h (kPq (.int (iI (kB (wcF f wm wd jm qq rm k t n)))) h) kNo := by
  have hgp := kWf_gap hC.2.2
  have hrr := kWf_room hC.2.2 hr.1 hr.2
  refine kC_of hl rfl rfl (by cases jo <;> cases lo <;> exact Nat.le_of_ble_eq_true rfl) (L := [some (.ref pl), some (.int (iI ((qq : Nat) : Int))), some (va_rf jo), some (.ref s), some (.ref (gRm γ rm)), some (va_rf lo), none, none, none, none, none, none, none])  (by cases jo <;> cases lo <;> rfl) ?_
  refine k_aload_n (pc1 := 1) dX5_wouldClash_0 rfl rfl ?_
  refine k_aload_n (pc1 := 2) dX5_wouldClash_1 rfl rfl ?_
  refine k_get (pc1 := 5) dX5_wouldClash_2 rfl fd_RX5_114 hS (v := .int (iI k)) rfl ?_
  refine k_callVP dX5_wouldClash_5 rfl lk_RX5_242 o_X5_dayWith (w_dyY hl hC ⟨by omega, by omega⟩) (as := [.int (iI k)]) (rp_P hC) rfl rfl rfl rfl (by decide) (by decide) (k8 rfl) ?_
  obtain ⟨arD, cD, hDl⟩ := rp_Dl hC (k := k) (by omega) (by omega)
  obtain ⟨mcD, hDa⟩ := hDl.1
  have hlen := rp_len hC (k := k) (by omega) (by omega)
  refine k_get (pc1 := 11) dX5_wouldClash_8 rfl fd_RX5_246 (rp_Dy hC (by omega) (by omega)) (v := .ref (gDl γ k)) rfl ?_
  refine k_astore (pc1 := 13) dX5_wouldClash_11 rfl (by decide) (k_loc (L' := [some (.ref pl), some (.int (iI ((qq : Nat) : Int))), some (va_rf jo), some (.ref s), some (.ref (gRm γ rm)), some (va_rf lo), some (.ref (gDl γ k)), none, none, none, none, none, none]) (kset1_q (i := 5) rfl) ?_)
  refine k_iconst (pc1 := 14) dX5_wouldClash_13 rfl ?_
  refine k_istore (pc1 := 16) dX5_wouldClash_14 rfl (by decide) (k_loc (L' := [some (.ref pl), some (.int (iI ((qq : Nat) : Int))), some (va_rf jo), some (.ref s), some (.ref (gRm γ rm)), some (va_rf lo), some (.ref (gDl γ k)), some (.int (iI 0)), none, none, none, none, none]) rfl ?_)
  have hloop16 : ∀ (zz : Nat) (i : Nat), zz = (aDx A k).length - i → (i ≤ (aDx A k).length) → (dnI A f k (fun m d => wcP f wm wd jm qq rm k t n m d) i) → kW l G m_X5_wouldClash 4 (kPq (.int (iI (kB (wcF f wm wd jm qq rm k t n)))) h) kNo 0 0 16 [some (.ref pl), some (.int (iI ((qq : Nat) : Int))), some (va_rf jo), some (.ref s), some (.ref (gRm γ rm)), some (va_rf lo), some (.ref (gDl γ k)), some (.int (iI ((i : Nat) : Int))), none, none, none, none, none] [] h := by
    intro zz
    induction zz using Nat.strongRecOn with
    | ind zz ih16 =>
    intro i hr16 hi9 hB
    refine k_iload (pc1 := 18) dX5_wouldClash_16 rfl rfl ?_
    refine k_aload (pc1 := 20) dX5_wouldClash_18 rfl rfl ?_
    refine k_callVP dX5_wouldClash_20 rfl lk_RX5_65 o_Jx4a65c_size_8abf5 (w_lsz hl hDl) (as := []) hDa rfl rfl rfl rfl (by decide) (by decide) (k8 rfl) ?_
    refine k_val (v' := .int (iI (((aDx A k).length : Nat) : Int))) (congrArg (fun z : Nat => Value.int (iI (z : Int))) (List.length_map _)) ?_
    refine k_icmp_ge (a := ((i : Nat) : Int)) (b := (((aDx A k).length : Nat) : Int)) dX5_wouldClash_23 rfl (tgt := 141) rfl (by omega) (by omega) (fun c23 : (((aDx A k).length : Nat) : Int) ≤ ((i : Nat) : Int) => ?_) (fun c23 : ((i : Nat) : Int) < (((aDx A k).length : Nat) : Int) => ?_)
    · skip
      refine k_iconst (pc1 := 142) dX5_wouldClash_141 rfl ?_
      exact k_iret dX5_wouldClash_142 rfl rfl (kret (kB_f (fun ⟨m, d, z1, z2⟩ => dn_e hC hk.1 hk.2 (by omega) hB z1 z2.1.1 z2.1.2.1 z2)).symm _)
    · skip
      obtain ⟨m, dd, hi, ho, hk2, hx⟩ := rp_at hC (k := k) (by omega) (by omega) (i := i) (by omega)
      have hmm := kWf_m hC.2.2 hi.1 hi.2.1
      have hmd := kWf_d hC.2.2 hi.1 hi.2.1 hi.2.2.1 hi.2.2.2
      have hmx := rp_Mx hC hi.1 hi.2.1
      refine k_aload (pc1 := 28) dX5_wouldClash_26 rfl rfl ?_
      refine k_iload (pc1 := 30) dX5_wouldClash_28 rfl rfl ?_
      refine k_callVP dX5_wouldClash_30 rfl lk_RX5_131 o_Jx4a65c_get_915e3 (w_lgt hl hDl ((i : Nat) : Int) ⟨by omega, by rw [List.length_map _]; omega⟩ (by rw [show ((((i : Nat) : Int)) : Int).toNat = i from rfl, List.getElem?_map, hx]; rfl)) (as := [.int (iI ((i : Nat) : Int))]) hDa rfl rfl rfl rfl (by decide) (by decide) (k8 rfl) ?_
      refine k_cast (r := (RX0, TX0, 4)) (pc1 := 36) dX5_wouldClash_33 rfl cl_RX5_109 (rp_D hC hi) rfl ?_
      refine k_astore (pc1 := 38) dX5_wouldClash_36 rfl (by decide) (k_loc (L' := [some (.ref pl), some (.int (iI ((qq : Nat) : Int))), some (va_rf jo), some (.ref s), some (.ref (gRm γ rm)), some (va_rf lo), some (.ref (gDl γ k)), some (.int (iI ((i : Nat) : Int))), some (.ref (gDt γ (oF f m 0) dd)), none, none, none, none]) rfl ?_)
      refine k_aload (pc1 := 40) dX5_wouldClash_38 rfl rfl ?_
      refine k_get (pc1 := 43) dX5_wouldClash_40 rfl fd_RX5_218 (rp_D hC hi) (v := .ref (gMt γ (oF f m 0))) rfl ?_
      refine k_astore (pc1 := 45) dX5_wouldClash_43 rfl (by decide) (k_loc (L' := [some (.ref pl), some (.int (iI ((qq : Nat) : Int))), some (va_rf jo), some (.ref s), some (.ref (gRm γ rm)), some (va_rf lo), some (.ref (gDl γ k)), some (.int (iI ((i : Nat) : Int))), some (.ref (gDt γ (oF f m 0) dd)), some (.ref (gMt γ (oF f m 0))), none, none, none]) rfl ?_)
      refine k_aload (pc1 := 47) dX5_wouldClash_45 rfl rfl ?_
      refine k_aload_nq (pc1 := 48) dX5_wouldClash_47 rfl rfl ?_
      refine k_acmp_eq (rx := (some (gMt γ (oF f m 0)))) (ry := jo) dX5_wouldClash_48 rfl (tgt := 61) rfl (fun c48 : (some (gMt γ (oF f m 0))) = jo => ?_) (fun c48 : (some (gMt γ (oF f m 0))) ≠ jo => ?_)
      · skip
        refine k_iconst (pc1 := 62) dX5_wouldClash_61 rfl ?_
        refine k_goto dX5_wouldClash_62 (tgt := 66) rfl ?_
        refine k_istore (pc1 := 68) dX5_wouldClash_66 rfl (by decide) (k_loc (L' := [some (.ref pl), some (.int (iI ((qq : Nat) : Int))), some (va_rf jo), some (.ref s), some (.ref (gRm γ rm)), some (va_rf lo), some (.ref (gDl γ k)), some (.int (iI ((i : Nat) : Int))), some (.ref (gDt γ (oF f m 0) dd)), some (.ref (gMt γ (oF f m 0))), some (.int (iI 1)), none, none]) rfl ?_)
        refine k_aload (pc1 := 70) dX5_wouldClash_68 rfl rfl ?_
        refine k_get (pc1 := 73) dX5_wouldClash_70 rfl fd_RX5_108 (rp_D hC hi) (v := .ref (gSt γ (oF f m 0) dd)) rfl ?_
        refine k_aload_n (pc1 := 74) dX5_wouldClash_73 rfl rfl ?_
        refine k_callVP dX5_wouldClash_74 rfl lk_RX5_337 o_X4_timesBetween (w_X4_timesBetween hl (rp_S hC hi) hS ⟨by omega, by omega⟩ ⟨by omega, by omega⟩ ⟨by omega, by omega⟩ ⟨by omega, by omega⟩) (as := [.ref s]) (rp_S hC hi) rfl rfl rfl rfl (by decide) (by decide) (k8 rfl) ?_
        refine k_istore (pc1 := 79) dX5_wouldClash_77 rfl (by decide) (k_loc (L' := [some (.ref pl), some (.int (iI ((qq : Nat) : Int))), some (va_rf jo), some (.ref s), some (.ref (gRm γ rm)), some (va_rf lo), some (.ref (gDl γ k)), some (.int (iI ((i : Nat) : Int))), some (.ref (gDt γ (oF f m 0) dd)), some (.ref (gMt γ (oF f m 0))), some (.int (iI 1)), some (.int (iI (bwF f m dd t n))), none]) rfl ?_)
        have hbr := bw_r (f := f) (m := m) (d := dd) (t := t) (n := n) ⟨by omega, by omega⟩ ⟨by omega, by omega⟩ ⟨by omega, by omega⟩ ⟨by omega, by omega⟩
        refine k_iload (pc1 := 81) dX5_wouldClash_79 rfl rfl ?_
        refine k_if_lt (a := (bwF f m dd t n)) dX5_wouldClash_81 rfl (tgt := 109) rfl (by omega) (fun c81 : (bwF f m dd t n) < 0 => ?_) (fun c81 : ¬ (bwF f m dd t n) < 0 => ?_)
        · skip
          refine k_iconst (pc1 := 110) dX5_wouldClash_109 rfl ?_
          refine k_goto dX5_wouldClash_110 (tgt := 114) rfl ?_
          refine k_istore (pc1 := 116) dX5_wouldClash_114 rfl (by decide) (k_loc (L' := [some (.ref pl), some (.int (iI ((qq : Nat) : Int))), some (va_rf jo), some (.ref s), some (.ref (gRm γ rm)), some (va_rf lo), some (.ref (gDl γ k)), some (.int (iI ((i : Nat) : Int))), some (.ref (gDt γ (oF f m 0) dd)), some (.ref (gMt γ (oF f m 0))), some (.int (iI 1)), some (.int (iI (bwF f m dd t n))), some (.int (iI 1))]) rfl ?_)
          refine k_aload (pc1 := 118) dX5_wouldClash_116 rfl rfl ?_
          refine k_aloadq (pc1 := 120) dX5_wouldClash_118 rfl rfl ?_
          refine k_acmp_eq (rx := (some (gDt γ (oF f m 0) dd))) (ry := lo) dX5_wouldClash_120 rfl (tgt := 135) rfl (fun c120 : (some (gDt γ (oF f m 0) dd)) = lo => ?_) (fun c120 : (some (gDt γ (oF f m 0) dd)) ≠ lo => ?_)
          · skip
            refine k_iinc (a := ((i : Nat) : Int)) (pc1 := 138) dX5_wouldClash_135 rfl rfl (by decide) (k_loc (L' := [some (.ref pl), some (.int (iI ((qq : Nat) : Int))), some (va_rf jo), some (.ref s), some (.ref (gRm γ rm)), some (va_rf lo), some (.ref (gDl γ k)), some (.int (iI (((i : Nat) : Int) + 1))), some (.ref (gDt γ (oF f m 0) dd)), some (.ref (gMt γ (oF f m 0))), some (.int (iI 1)), some (.int (iI (bwF f m dd t n))), some (.int (iI 1))]) rfl ?_)
            refine k_goto dX5_wouldClash_138 (tgt := 16) rfl ?_
            refine k_forget 8 (k_loc (L' := [some (.ref pl), some (.int (iI ((qq : Nat) : Int))), some (va_rf jo), some (.ref s), some (.ref (gRm γ rm)), some (va_rf lo), some (.ref (gDl γ k)), some (.int (iI (((i : Nat) : Int) + 1))), none, some (.ref (gMt γ (oF f m 0))), some (.int (iI 1)), some (.int (iI (bwF f m dd t n))), some (.int (iI 1))]) rfl ?_)
            refine k_forget 9 (k_loc (L' := [some (.ref pl), some (.int (iI ((qq : Nat) : Int))), some (va_rf jo), some (.ref s), some (.ref (gRm γ rm)), some (va_rf lo), some (.ref (gDl γ k)), some (.int (iI (((i : Nat) : Int) + 1))), none, none, some (.int (iI 1)), some (.int (iI (bwF f m dd t n))), some (.int (iI 1))]) rfl ?_)
            refine k_forget 10 (k_loc (L' := [some (.ref pl), some (.int (iI ((qq : Nat) : Int))), some (va_rf jo), some (.ref s), some (.ref (gRm γ rm)), some (va_rf lo), some (.ref (gDl γ k)), some (.int (iI (((i : Nat) : Int) + 1))), none, none, none, some (.int (iI (bwF f m dd t n))), some (.int (iI 1))]) rfl ?_)
            refine k_forget 11 (k_loc (L' := [some (.ref pl), some (.int (iI ((qq : Nat) : Int))), some (va_rf jo), some (.ref s), some (.ref (gRm γ rm)), some (va_rf lo), some (.ref (gDl γ k)), some (.int (iI (((i : Nat) : Int) + 1))), none, none, none, none, some (.int (iI 1))]) rfl ?_)
            refine k_forget 12 (k_loc (L' := [some (.ref pl), some (.int (iI ((qq : Nat) : Int))), some (va_rf jo), some (.ref s), some (.ref (gRm γ rm)), some (va_rf lo), some (.ref (gDl γ k)), some (.int (iI (((i : Nat) : Int) + 1))), none, none, none, none, none]) rfl ?_)
            exact ih16 _ (by omega) (i + 1) rfl (by omega) (dn_s hC hi hx hB (fun z => by first | exact z.1.2.2 ((hlo m dd hi).mp c120) | (rcases z.2.1 with y | y; (first | exact c48 ((hjo m hi.1 hi.2.1).mpr y)); (exact (rp_exa hC hi.1 hi.2.1).mpr y c58)) | (rcases z.2.2 with y | ⟨y1, y2⟩; (exact c81 ((bw_neg (m := m) (d := dd) (by omega) (by omega)).mpr y)); (first | exact y1 c97 | (have y3 := (bw_gap (m := m) (d := dd) (g := f 0) (by omega) (by omega) (by omega)).mpr y2; omega)))))
          · skip
            refine k_iload (pc1 := 125) dX5_wouldClash_123 rfl rfl ?_
            refine k_if_eq (a := 1) dX5_wouldClash_125 rfl (tgt := 135) rfl (by decide) (fun c => absurd c (by decide)) (fun _ => ?_)
            refine k_iload (pc1 := 130) dX5_wouldClash_128 rfl rfl ?_
            refine k_if_eq (a := 1) dX5_wouldClash_130 rfl (tgt := 135) rfl (by decide) (fun c => absurd c (by decide)) (fun _ => ?_)
            refine k_iconst (pc1 := 134) dX5_wouldClash_133 rfl ?_
            exact k_iret dX5_wouldClash_134 rfl rfl (kret (kB_t ⟨m, dd, hi, ⟨ho, hk2, fun z => c120 ((hlo m dd hi).mpr z)⟩, (by first | exact Or.inl ((hjo m hi.1 hi.2.1).mp c48) | exact Or.inr ((rp_exa hC hi.1 hi.2.1).mp c58)), (by first | exact Or.inl ((bw_neg (by omega) (by omega)).mp c81) | exact Or.inr ⟨c97, (bw_gap (by omega) (by omega) (by omega)).mp c106⟩)⟩).symm _)
        · skip
          refine k_aload (pc1 := 86) dX5_wouldClash_84 rfl rfl ?_
          have hrr2 := kWf_room hC.2.2 (r := dF f m dd 3) (by omega) (by omega)
          refine k_get (pc1 := 89) dX5_wouldClash_86 rfl fd_RX5_190 (rp_D hC hi) (v := .ref (gRm γ (dF f m dd 3))) rfl ?_
          refine k_get (pc1 := 92) dX5_wouldClash_89 rfl fd_RX5_55 (rp_R hC (r := dF f m dd 3) (by omega) (by omega)) (v := .int (iI (f (9 + (dF f m dd 3)).toNat))) rfl ?_
          refine k_aload (pc1 := 94) dX5_wouldClash_92 rfl rfl ?_
          refine k_get (pc1 := 97) dX5_wouldClash_94 rfl fd_RX5_55 (rp_R hC hr.1 hr.2) (v := .int (iI (f (9 + rm).toNat))) rfl ?_
          refine k_icmp_eq (a := (f (9 + (dF f m dd 3)).toNat)) (b := (f (9 + rm).toNat)) dX5_wouldClash_97 rfl (tgt := 113) rfl (by omega) (by omega) (fun c97 : (f (9 + (dF f m dd 3)).toNat) = (f (9 + rm).toNat) => ?_) (fun c97 : (f (9 + (dF f m dd 3)).toNat) ≠ (f (9 + rm).toNat) => ?_)
          · skip
            refine k_iconst (pc1 := 114) dX5_wouldClash_113 rfl ?_
            refine k_istore (pc1 := 116) dX5_wouldClash_114 rfl (by decide) (k_loc (L' := [some (.ref pl), some (.int (iI ((qq : Nat) : Int))), some (va_rf jo), some (.ref s), some (.ref (gRm γ rm)), some (va_rf lo), some (.ref (gDl γ k)), some (.int (iI ((i : Nat) : Int))), some (.ref (gDt γ (oF f m 0) dd)), some (.ref (gMt γ (oF f m 0))), some (.int (iI 1)), some (.int (iI (bwF f m dd t n))), some (.int (iI 0))]) rfl ?_)
            refine k_aload (pc1 := 118) dX5_wouldClash_116 rfl rfl ?_
            refine k_aloadq (pc1 := 120) dX5_wouldClash_118 rfl rfl ?_
            refine k_acmp_eq (rx := (some (gDt γ (oF f m 0) dd))) (ry := lo) dX5_wouldClash_120 rfl (tgt := 135) rfl (fun c120 : (some (gDt γ (oF f m 0) dd)) = lo => ?_) (fun c120 : (some (gDt γ (oF f m 0) dd)) ≠ lo => ?_)
            · skip
              refine k_iinc (a := ((i : Nat) : Int)) (pc1 := 138) dX5_wouldClash_135 rfl rfl (by decide) (k_loc (L' := [some (.ref pl), some (.int (iI ((qq : Nat) : Int))), some (va_rf jo), some (.ref s), some (.ref (gRm γ rm)), some (va_rf lo), some (.ref (gDl γ k)), some (.int (iI (((i : Nat) : Int) + 1))), some (.ref (gDt γ (oF f m 0) dd)), some (.ref (gMt γ (oF f m 0))), some (.int (iI 1)), some (.int (iI (bwF f m dd t n))), some (.int (iI 0))]) rfl ?_)
              refine k_goto dX5_wouldClash_138 (tgt := 16) rfl ?_
              refine k_forget 8 (k_loc (L' := [some (.ref pl), some (.int (iI ((qq : Nat) : Int))), some (va_rf jo), some (.ref s), some (.ref (gRm γ rm)), some (va_rf lo), some (.ref (gDl γ k)), some (.int (iI (((i : Nat) : Int) + 1))), none, some (.ref (gMt γ (oF f m 0))), some (.int (iI 1)), some (.int (iI (bwF f m dd t n))), some (.int (iI 0))]) rfl ?_)
              refine k_forget 9 (k_loc (L' := [some (.ref pl), some (.int (iI ((qq : Nat) : Int))), some (va_rf jo), some (.ref s), some (.ref (gRm γ rm)), some (va_rf lo), some (.ref (gDl γ k)), some (.int (iI (((i : Nat) : Int) + 1))), none, none, some (.int (iI 1)), some (.int (iI (bwF f m dd t n))), some (.int (iI 0))]) rfl ?_)
              refine k_forget 10 (k_loc (L' := [some (.ref pl), some (.int (iI ((qq : Nat) : Int))), some (va_rf jo), some (.ref s), some (.ref (gRm γ rm)), some (va_rf lo), some (.ref (gDl γ k)), some (.int (iI (((i : Nat) : Int) + 1))), none, none, none, some (.int (iI (bwF f m dd t n))), some (.int (iI 0))]) rfl ?_)
              refine k_forget 11 (k_loc (L' := [some (.ref pl), some (.int (iI ((qq : Nat) : Int))), some (va_rf jo), some (.ref s), some (.ref (gRm γ rm)), some (va_rf lo), some (.ref (gDl γ k)), some (.int (iI (((i : Nat) : Int) + 1))), none, none, none, none, some (.int (iI 0))]) rfl ?_)
              refine k_forget 12 (k_loc (L' := [some (.ref pl), some (.int (iI ((qq : Nat) : Int))), some (va_rf jo), some (.ref s), some (.ref (gRm γ rm)), some (va_rf lo), some (.ref (gDl γ k)), some (.int (iI (((i : Nat) : Int) + 1))), none, none, none, none, none]) rfl ?_)
              exact ih16 _ (by omega) (i + 1) rfl (by omega) (dn_s hC hi hx hB (fun z => by first | exact z.1.2.2 ((hlo m dd hi).mp c120) | (rcases z.2.1 with y | y; (first | exact c48 ((hjo m hi.1 hi.2.1).mpr y)); (exact (rp_exa hC hi.1 hi.2.1).mpr y c58)) | (rcases z.2.2 with y | ⟨y1, y2⟩; (exact c81 ((bw_neg (m := m) (d := dd) (by omega) (by omega)).mpr y)); (first | exact y1 c97 | (have y3 := (bw_gap (m := m) (d := dd) (g := f 0) (by omega) (by omega) (by omega)).mpr y2; omega)))))
            · skip
              refine k_iload (pc1 := 125) dX5_wouldClash_123 rfl rfl ?_
              refine k_if_eq (a := 1) dX5_wouldClash_125 rfl (tgt := 135) rfl (by decide) (fun c => absurd c (by decide)) (fun _ => ?_)
              refine k_iload (pc1 := 130) dX5_wouldClash_128 rfl rfl ?_
              refine k_if_eq (a := 0) dX5_wouldClash_130 rfl (tgt := 135) rfl (by decide) (fun _ => ?_) (fun c => absurd c (by decide))
              refine k_iinc (a := ((i : Nat) : Int)) (pc1 := 138) dX5_wouldClash_135 rfl rfl (by decide) (k_loc (L' := [some (.ref pl), some (.int (iI ((qq : Nat) : Int))), some (va_rf jo), some (.ref s), some (.ref (gRm γ rm)), some (va_rf lo), some (.ref (gDl γ k)), some (.int (iI (((i : Nat) : Int) + 1))), some (.ref (gDt γ (oF f m 0) dd)), some (.ref (gMt γ (oF f m 0))), some (.int (iI 1)), some (.int (iI (bwF f m dd t n))), some (.int (iI 0))]) rfl ?_)
              refine k_goto dX5_wouldClash_138 (tgt := 16) rfl ?_
              refine k_forget 8 (k_loc (L' := [some (.ref pl), some (.int (iI ((qq : Nat) : Int))), some (va_rf jo), some (.ref s), some (.ref (gRm γ rm)), some (va_rf lo), some (.ref (gDl γ k)), some (.int (iI (((i : Nat) : Int) + 1))), none, some (.ref (gMt γ (oF f m 0))), some (.int (iI 1)), some (.int (iI (bwF f m dd t n))), some (.int (iI 0))]) rfl ?_)
              refine k_forget 9 (k_loc (L' := [some (.ref pl), some (.int (iI ((qq : Nat) : Int))), some (va_rf jo), some (.ref s), some (.ref (gRm γ rm)), some (va_rf lo), some (.ref (gDl γ k)), some (.int (iI (((i : Nat) : Int) + 1))), none, none, some (.int (iI 1)), some (.int (iI (bwF f m dd t n))), some (.int (iI 0))]) rfl ?_)
              refine k_forget 10 (k_loc (L' := [some (.ref pl), some (.int (iI ((qq : Nat) : Int))), some (va_rf jo), some (.ref s), some (.ref (gRm γ rm)), some (va_rf lo), some (.ref (gDl γ k)), some (.int (iI (((i : Nat) : Int) + 1))), none, none, none, some (.int (iI (bwF f m dd t n))), some (.int (iI 0))]) rfl ?_)
              refine k_forget 11 (k_loc (L' := [some (.ref pl), some (.int (iI ((qq : Nat) : Int))), some (va_rf jo), some (.ref s), some (.ref (gRm γ rm)), some (va_rf lo), some (.ref (gDl γ k)), some (.int (iI (((i : Nat) : Int) + 1))), none, none, none, none, some (.int (iI 0))]) rfl ?_)
              refine k_forget 12 (k_loc (L' := [some (.ref pl), some (.int (iI ((qq : Nat) : Int))), some (va_rf jo), some (.ref s), some (.ref (gRm γ rm)), some (va_rf lo), some (.ref (gDl γ k)), some (.int (iI (((i : Nat) : Int) + 1))), none, none, none, none, none]) rfl ?_)
              exact ih16 _ (by omega) (i + 1) rfl (by omega) (dn_s hC hi hx hB (fun z => by first | exact z.1.2.2 ((hlo m dd hi).mp c120) | (rcases z.2.1 with y | y; (first | exact c48 ((hjo m hi.1 hi.2.1).mpr y)); (exact (rp_exa hC hi.1 hi.2.1).mpr y c58)) | (rcases z.2.2 with y | ⟨y1, y2⟩; (exact c81 ((bw_neg (m := m) (d := dd) (by omega) (by omega)).mpr y)); (first | exact y1 c97 | (have y3 := (bw_gap (m := m) (d := dd) (g := f 0) (by omega) (by omega) (by omega)).mpr y2; omega)))))
          · skip
            refine k_iload (pc1 := 102) dX5_wouldClash_100 rfl rfl ?_
            refine k_aload_n (pc1 := 103) dX5_wouldClash_102 rfl rfl ?_
            refine k_get (pc1 := 106) dX5_wouldClash_103 rfl fd_RX5_32 (rp_P hC) (v := .int (iI (f 0))) rfl ?_
            refine k_icmp_ge (a := (bwF f m dd t n)) (b := (f 0)) dX5_wouldClash_106 rfl (tgt := 113) rfl (by omega) (by omega) (fun c106 : (f 0) ≤ (bwF f m dd t n) => ?_) (fun c106 : (bwF f m dd t n) < (f 0) => ?_)
            · skip
              refine k_iconst (pc1 := 114) dX5_wouldClash_113 rfl ?_
              refine k_istore (pc1 := 116) dX5_wouldClash_114 rfl (by decide) (k_loc (L' := [some (.ref pl), some (.int (iI ((qq : Nat) : Int))), some (va_rf jo), some (.ref s), some (.ref (gRm γ rm)), some (va_rf lo), some (.ref (gDl γ k)), some (.int (iI ((i : Nat) : Int))), some (.ref (gDt γ (oF f m 0) dd)), some (.ref (gMt γ (oF f m 0))), some (.int (iI 1)), some (.int (iI (bwF f m dd t n))), some (.int (iI 0))]) rfl ?_)
              refine k_aload (pc1 := 118) dX5_wouldClash_116 rfl rfl ?_
              refine k_aloadq (pc1 := 120) dX5_wouldClash_118 rfl rfl ?_
              refine k_acmp_eq (rx := (some (gDt γ (oF f m 0) dd))) (ry := lo) dX5_wouldClash_120 rfl (tgt := 135) rfl (fun c120 : (some (gDt γ (oF f m 0) dd)) = lo => ?_) (fun c120 : (some (gDt γ (oF f m 0) dd)) ≠ lo => ?_)
              · skip
                refine k_iinc (a := ((i : Nat) : Int)) (pc1 := 138) dX5_wouldClash_135 rfl rfl (by decide) (k_loc (L' := [some (.ref pl), some (.int (iI ((qq : Nat) : Int))), some (va_rf jo), some (.ref s), some (.ref (gRm γ rm)), some (va_rf lo), some (.ref (gDl γ k)), some (.int (iI (((i : Nat) : Int) + 1))), some (.ref (gDt γ (oF f m 0) dd)), some (.ref (gMt γ (oF f m 0))), some (.int (iI 1)), some (.int (iI (bwF f m dd t n))), some (.int (iI 0))]) rfl ?_)
                refine k_goto dX5_wouldClash_138 (tgt := 16) rfl ?_
                refine k_forget 8 (k_loc (L' := [some (.ref pl), some (.int (iI ((qq : Nat) : Int))), some (va_rf jo), some (.ref s), some (.ref (gRm γ rm)), some (va_rf lo), some (.ref (gDl γ k)), some (.int (iI (((i : Nat) : Int) + 1))), none, some (.ref (gMt γ (oF f m 0))), some (.int (iI 1)), some (.int (iI (bwF f m dd t n))), some (.int (iI 0))]) rfl ?_)
                refine k_forget 9 (k_loc (L' := [some (.ref pl), some (.int (iI ((qq : Nat) : Int))), some (va_rf jo), some (.ref s), some (.ref (gRm γ rm)), some (va_rf lo), some (.ref (gDl γ k)), some (.int (iI (((i : Nat) : Int) + 1))), none, none, some (.int (iI 1)), some (.int (iI (bwF f m dd t n))), some (.int (iI 0))]) rfl ?_)
                refine k_forget 10 (k_loc (L' := [some (.ref pl), some (.int (iI ((qq : Nat) : Int))), some (va_rf jo), some (.ref s), some (.ref (gRm γ rm)), some (va_rf lo), some (.ref (gDl γ k)), some (.int (iI (((i : Nat) : Int) + 1))), none, none, none, some (.int (iI (bwF f m dd t n))), some (.int (iI 0))]) rfl ?_)
                refine k_forget 11 (k_loc (L' := [some (.ref pl), some (.int (iI ((qq : Nat) : Int))), some (va_rf jo), some (.ref s), some (.ref (gRm γ rm)), some (va_rf lo), some (.ref (gDl γ k)), some (.int (iI (((i : Nat) : Int) + 1))), none, none, none, none, some (.int (iI 0))]) rfl ?_)
                refine k_forget 12 (k_loc (L' := [some (.ref pl), some (.int (iI ((qq : Nat) : Int))), some (va_rf jo), some (.ref s), some (.ref (gRm γ rm)), some (va_rf lo), some (.ref (gDl γ k)), some (.int (iI (((i : Nat) : Int) + 1))), none, none, none, none, none]) rfl ?_)
                exact ih16 _ (by omega) (i + 1) rfl (by omega) (dn_s hC hi hx hB (fun z => by first | exact z.1.2.2 ((hlo m dd hi).mp c120) | (rcases z.2.1 with y | y; (first | exact c48 ((hjo m hi.1 hi.2.1).mpr y)); (exact (rp_exa hC hi.1 hi.2.1).mpr y c58)) | (rcases z.2.2 with y | ⟨y1, y2⟩; (exact c81 ((bw_neg (m := m) (d := dd) (by omega) (by omega)).mpr y)); (first | exact y1 c97 | (have y3 := (bw_gap (m := m) (d := dd) (g := f 0) (by omega) (by omega) (by omega)).mpr y2; omega)))))
              · skip
                refine k_iload (pc1 := 125) dX5_wouldClash_123 rfl rfl ?_
                refine k_if_eq (a := 1) dX5_wouldClash_125 rfl (tgt := 135) rfl (by decide) (fun c => absurd c (by decide)) (fun _ => ?_)
                refine k_iload (pc1 := 130) dX5_wouldClash_128 rfl rfl ?_
                refine k_if_eq (a := 0) dX5_wouldClash_130 rfl (tgt := 135) rfl (by decide) (fun _ => ?_) (fun c => absurd c (by decide))
                refine k_iinc (a := ((i : Nat) : Int)) (pc1 := 138) dX5_wouldClash_135 rfl rfl (by decide) (k_loc (L' := [some (.ref pl), some (.int (iI ((qq : Nat) : Int))), some (va_rf jo), some (.ref s), some (.ref (gRm γ rm)), some (va_rf lo), some (.ref (gDl γ k)), some (.int (iI (((i : Nat) : Int) + 1))), some (.ref (gDt γ (oF f m 0) dd)), some (.ref (gMt γ (oF f m 0))), some (.int (iI 1)), some (.int (iI (bwF f m dd t n))), some (.int (iI 0))]) rfl ?_)
                refine k_goto dX5_wouldClash_138 (tgt := 16) rfl ?_
                refine k_forget 8 (k_loc (L' := [some (.ref pl), some (.int (iI ((qq : Nat) : Int))), some (va_rf jo), some (.ref s), some (.ref (gRm γ rm)), some (va_rf lo), some (.ref (gDl γ k)), some (.int (iI (((i : Nat) : Int) + 1))), none, some (.ref (gMt γ (oF f m 0))), some (.int (iI 1)), some (.int (iI (bwF f m dd t n))), some (.int (iI 0))]) rfl ?_)
                refine k_forget 9 (k_loc (L' := [some (.ref pl), some (.int (iI ((qq : Nat) : Int))), some (va_rf jo), some (.ref s), some (.ref (gRm γ rm)), some (va_rf lo), some (.ref (gDl γ k)), some (.int (iI (((i : Nat) : Int) + 1))), none, none, some (.int (iI 1)), some (.int (iI (bwF f m dd t n))), some (.int (iI 0))]) rfl ?_)
                refine k_forget 10 (k_loc (L' := [some (.ref pl), some (.int (iI ((qq : Nat) : Int))), some (va_rf jo), some (.ref s), some (.ref (gRm γ rm)), some (va_rf lo), some (.ref (gDl γ k)), some (.int (iI (((i : Nat) : Int) + 1))), none, none, none, some (.int (iI (bwF f m dd t n))), some (.int (iI 0))]) rfl ?_)
                refine k_forget 11 (k_loc (L' := [some (.ref pl), some (.int (iI ((qq : Nat) : Int))), some (va_rf jo), some (.ref s), some (.ref (gRm γ rm)), some (va_rf lo), some (.ref (gDl γ k)), some (.int (iI (((i : Nat) : Int) + 1))), none, none, none, none, some (.int (iI 0))]) rfl ?_)
                refine k_forget 12 (k_loc (L' := [some (.ref pl), some (.int (iI ((qq : Nat) : Int))), some (va_rf jo), some (.ref s), some (.ref (gRm γ rm)), some (va_rf lo), some (.ref (gDl γ k)), some (.int (iI (((i : Nat) : Int) + 1))), none, none, none, none, none]) rfl ?_)
                exact ih16 _ (by omega) (i + 1) rfl (by omega) (dn_s hC hi hx hB (fun z => by first | exact z.1.2.2 ((hlo m dd hi).mp c120) | (rcases z.2.1 with y | y; (first | exact c48 ((hjo m hi.1 hi.2.1).mpr y)); (exact (rp_exa hC hi.1 hi.2.1).mpr y c58)) | (rcases z.2.2 with y | ⟨y1, y2⟩; (exact c81 ((bw_neg (m := m) (d := dd) (by omega) (by omega)).mpr y)); (first | exact y1 c97 | (have y3 := (bw_gap (m := m) (d := dd) (g := f 0) (by omega) (by omega) (by omega)).mpr y2; omega)))))
            · skip
              refine k_iconst (pc1 := 110) dX5_wouldClash_109 rfl ?_
              refine k_goto dX5_wouldClash_110 (tgt := 114) rfl ?_
              refine k_istore (pc1 := 116) dX5_wouldClash_114 rfl (by decide) (k_loc (L' := [some (.ref pl), some (.int (iI ((qq : Nat) : Int))), some (va_rf jo), some (.ref s), some (.ref (gRm γ rm)), some (va_rf lo), some (.ref (gDl γ k)), some (.int (iI ((i : Nat) : Int))), some (.ref (gDt γ (oF f m 0) dd)), some (.ref (gMt γ (oF f m 0))), some (.int (iI 1)), some (.int (iI (bwF f m dd t n))), some (.int (iI 1))]) rfl ?_)
              refine k_aload (pc1 := 118) dX5_wouldClash_116 rfl rfl ?_
              refine k_aloadq (pc1 := 120) dX5_wouldClash_118 rfl rfl ?_
              refine k_acmp_eq (rx := (some (gDt γ (oF f m 0) dd))) (ry := lo) dX5_wouldClash_120 rfl (tgt := 135) rfl (fun c120 : (some (gDt γ (oF f m 0) dd)) = lo => ?_) (fun c120 : (some (gDt γ (oF f m 0) dd)) ≠ lo => ?_)
              · skip
                refine k_iinc (a := ((i : Nat) : Int)) (pc1 := 138) dX5_wouldClash_135 rfl rfl (by decide) (k_loc (L' := [some (.ref pl), some (.int (iI ((qq : Nat) : Int))), some (va_rf jo), some (.ref s), some (.ref (gRm γ rm)), some (va_rf lo), some (.ref (gDl γ k)), some (.int (iI (((i : Nat) : Int) + 1))), some (.ref (gDt γ (oF f m 0) dd)), some (.ref (gMt γ (oF f m 0))), some (.int (iI 1)), some (.int (iI (bwF f m dd t n))), some (.int (iI 1))]) rfl ?_)
                refine k_goto dX5_wouldClash_138 (tgt := 16) rfl ?_
                refine k_forget 8 (k_loc (L' := [some (.ref pl), some (.int (iI ((qq : Nat) : Int))), some (va_rf jo), some (.ref s), some (.ref (gRm γ rm)), some (va_rf lo), some (.ref (gDl γ k)), some (.int (iI (((i : Nat) : Int) + 1))), none, some (.ref (gMt γ (oF f m 0))), some (.int (iI 1)), some (.int (iI (bwF f m dd t n))), some (.int (iI 1))]) rfl ?_)
                refine k_forget 9 (k_loc (L' := [some (.ref pl), some (.int (iI ((qq : Nat) : Int))), some (va_rf jo), some (.ref s), some (.ref (gRm γ rm)), some (va_rf lo), some (.ref (gDl γ k)), some (.int (iI (((i : Nat) : Int) + 1))), none, none, some (.int (iI 1)), some (.int (iI (bwF f m dd t n))), some (.int (iI 1))]) rfl ?_)
                refine k_forget 10 (k_loc (L' := [some (.ref pl), some (.int (iI ((qq : Nat) : Int))), some (va_rf jo), some (.ref s), some (.ref (gRm γ rm)), some (va_rf lo), some (.ref (gDl γ k)), some (.int (iI (((i : Nat) : Int) + 1))), none, none, none, some (.int (iI (bwF f m dd t n))), some (.int (iI 1))]) rfl ?_)
                refine k_forget 11 (k_loc (L' := [some (.ref pl), some (.int (iI ((qq : Nat) : Int))), some (va_rf jo), some (.ref s), some (.ref (gRm γ rm)), some (va_rf lo), some (.ref (gDl γ k)), some (.int (iI (((i : Nat) : Int) + 1))), none, none, none, none, some (.int (iI 1))]) rfl ?_)
                refine k_forget 12 (k_loc (L' := [some (.ref pl), some (.int (iI ((qq : Nat) : Int))), some (va_rf jo), some (.ref s), some (.ref (gRm γ rm)), some (va_rf lo), some (.ref (gDl γ k)), some (.int (iI (((i : Nat) : Int) + 1))), none, none, none, none, none]) rfl ?_)
                exact ih16 _ (by omega) (i + 1) rfl (by omega) (dn_s hC hi hx hB (fun z => by first | exact z.1.2.2 ((hlo m dd hi).mp c120) | (rcases z.2.1 with y | y; (first | exact c48 ((hjo m hi.1 hi.2.1).mpr y)); (exact (rp_exa hC hi.1 hi.2.1).mpr y c58)) | (rcases z.2.2 with y | ⟨y1, y2⟩; (exact c81 ((bw_neg (m := m) (d := dd) (by omega) (by omega)).mpr y)); (first | exact y1 c97 | (have y3 := (bw_gap (m := m) (d := dd) (g := f 0) (by omega) (by omega) (by omega)).mpr y2; omega)))))
              · skip
                refine k_iload (pc1 := 125) dX5_wouldClash_123 rfl rfl ?_
                refine k_if_eq (a := 1) dX5_wouldClash_125 rfl (tgt := 135) rfl (by decide) (fun c => absurd c (by decide)) (fun _ => ?_)
                refine k_iload (pc1 := 130) dX5_wouldClash_128 rfl rfl ?_
                refine k_if_eq (a := 1) dX5_wouldClash_130 rfl (tgt := 135) rfl (by decide) (fun c => absurd c (by decide)) (fun _ => ?_)
                refine k_iconst (pc1 := 134) dX5_wouldClash_133 rfl ?_
                exact k_iret dX5_wouldClash_134 rfl rfl (kret (kB_t ⟨m, dd, hi, ⟨ho, hk2, fun z => c120 ((hlo m dd hi).mpr z)⟩, (by first | exact Or.inl ((hjo m hi.1 hi.2.1).mp c48) | exact Or.inr ((rp_exa hC hi.1 hi.2.1).mp c58)), (by first | exact Or.inl ((bw_neg (by omega) (by omega)).mp c81) | exact Or.inr ⟨c97, (bw_gap (by omega) (by omega) (by omega)).mp c106⟩)⟩).symm _)
      · skip
        refine k_aload (pc1 := 53) dX5_wouldClash_51 rfl rfl ?_
        have hxl := exM_lt (no := aNo A (oF f m 0)) (show 0 ≤ oF f m 1 ∧ oF f m 1 < 6 by omega) hmx.1
        refine k_callVP dX5_wouldClash_53 rfl lk_RX5_308 o_X2_expectedPeople (w_X2_expectedPeople hl (rp_M hC hi.1 hi.2.1) ⟨by omega, by omega⟩ hmx.1 hmx.2.1 hmx.2.2.1) (as := []) (rp_M hC hi.1 hi.2.1) rfl rfl rfl rfl (by decide) (by decide) (k8 rfl) ?_
        refine k_iload_n (pc1 := 57) dX5_wouldClash_56 rfl rfl ?_
        refine k_iand (pc1 := 58) dX5_wouldClash_57 rfl (k_val (v' := .int (iI (((kan (exM (oF f m 1) (aAk A (oF f m 0)) (aNo A (oF f m 0))) qq) : Nat) : Int))) (congrArg Value.int iI_and) ?_)
        have hkl : kan (exM (oF f m 1) (aAk A (oF f m 0)) (aNo A (oF f m 0))) qq < 64 := kan_lt hxl
        refine k_if_eq (a := (((kan (exM (oF f m 1) (aAk A (oF f m 0)) (aNo A (oF f m 0))) qq) : Nat) : Int)) dX5_wouldClash_58 rfl (tgt := 65) rfl (by omega) (fun c58 : (((kan (exM (oF f m 1) (aAk A (oF f m 0)) (aNo A (oF f m 0))) qq) : Nat) : Int) = 0 => ?_) (fun c58 : (((kan (exM (oF f m 1) (aAk A (oF f m 0)) (aNo A (oF f m 0))) qq) : Nat) : Int) ≠ 0 => ?_)
        · skip
          refine k_iconst (pc1 := 66) dX5_wouldClash_65 rfl ?_
          refine k_istore (pc1 := 68) dX5_wouldClash_66 rfl (by decide) (k_loc (L' := [some (.ref pl), some (.int (iI ((qq : Nat) : Int))), some (va_rf jo), some (.ref s), some (.ref (gRm γ rm)), some (va_rf lo), some (.ref (gDl γ k)), some (.int (iI ((i : Nat) : Int))), some (.ref (gDt γ (oF f m 0) dd)), some (.ref (gMt γ (oF f m 0))), some (.int (iI 0)), none, none]) rfl ?_)
          refine k_aload (pc1 := 70) dX5_wouldClash_68 rfl rfl ?_
          refine k_get (pc1 := 73) dX5_wouldClash_70 rfl fd_RX5_108 (rp_D hC hi) (v := .ref (gSt γ (oF f m 0) dd)) rfl ?_
          refine k_aload_n (pc1 := 74) dX5_wouldClash_73 rfl rfl ?_
          refine k_callVP dX5_wouldClash_74 rfl lk_RX5_337 o_X4_timesBetween (w_X4_timesBetween hl (rp_S hC hi) hS ⟨by omega, by omega⟩ ⟨by omega, by omega⟩ ⟨by omega, by omega⟩ ⟨by omega, by omega⟩) (as := [.ref s]) (rp_S hC hi) rfl rfl rfl rfl (by decide) (by decide) (k8 rfl) ?_
          refine k_istore (pc1 := 79) dX5_wouldClash_77 rfl (by decide) (k_loc (L' := [some (.ref pl), some (.int (iI ((qq : Nat) : Int))), some (va_rf jo), some (.ref s), some (.ref (gRm γ rm)), some (va_rf lo), some (.ref (gDl γ k)), some (.int (iI ((i : Nat) : Int))), some (.ref (gDt γ (oF f m 0) dd)), some (.ref (gMt γ (oF f m 0))), some (.int (iI 0)), some (.int (iI (bwF f m dd t n))), none]) rfl ?_)
          have hbr := bw_r (f := f) (m := m) (d := dd) (t := t) (n := n) ⟨by omega, by omega⟩ ⟨by omega, by omega⟩ ⟨by omega, by omega⟩ ⟨by omega, by omega⟩
          refine k_iload (pc1 := 81) dX5_wouldClash_79 rfl rfl ?_
          refine k_if_lt (a := (bwF f m dd t n)) dX5_wouldClash_81 rfl (tgt := 109) rfl (by omega) (fun c81 : (bwF f m dd t n) < 0 => ?_) (fun c81 : ¬ (bwF f m dd t n) < 0 => ?_)
          · skip
            refine k_iconst (pc1 := 110) dX5_wouldClash_109 rfl ?_
            refine k_goto dX5_wouldClash_110 (tgt := 114) rfl ?_
            refine k_istore (pc1 := 116) dX5_wouldClash_114 rfl (by decide) (k_loc (L' := [some (.ref pl), some (.int (iI ((qq : Nat) : Int))), some (va_rf jo), some (.ref s), some (.ref (gRm γ rm)), some (va_rf lo), some (.ref (gDl γ k)), some (.int (iI ((i : Nat) : Int))), some (.ref (gDt γ (oF f m 0) dd)), some (.ref (gMt γ (oF f m 0))), some (.int (iI 0)), some (.int (iI (bwF f m dd t n))), some (.int (iI 1))]) rfl ?_)
            refine k_aload (pc1 := 118) dX5_wouldClash_116 rfl rfl ?_
            refine k_aloadq (pc1 := 120) dX5_wouldClash_118 rfl rfl ?_
            refine k_acmp_eq (rx := (some (gDt γ (oF f m 0) dd))) (ry := lo) dX5_wouldClash_120 rfl (tgt := 135) rfl (fun c120 : (some (gDt γ (oF f m 0) dd)) = lo => ?_) (fun c120 : (some (gDt γ (oF f m 0) dd)) ≠ lo => ?_)
            · skip
              refine k_iinc (a := ((i : Nat) : Int)) (pc1 := 138) dX5_wouldClash_135 rfl rfl (by decide) (k_loc (L' := [some (.ref pl), some (.int (iI ((qq : Nat) : Int))), some (va_rf jo), some (.ref s), some (.ref (gRm γ rm)), some (va_rf lo), some (.ref (gDl γ k)), some (.int (iI (((i : Nat) : Int) + 1))), some (.ref (gDt γ (oF f m 0) dd)), some (.ref (gMt γ (oF f m 0))), some (.int (iI 0)), some (.int (iI (bwF f m dd t n))), some (.int (iI 1))]) rfl ?_)
              refine k_goto dX5_wouldClash_138 (tgt := 16) rfl ?_
              refine k_forget 8 (k_loc (L' := [some (.ref pl), some (.int (iI ((qq : Nat) : Int))), some (va_rf jo), some (.ref s), some (.ref (gRm γ rm)), some (va_rf lo), some (.ref (gDl γ k)), some (.int (iI (((i : Nat) : Int) + 1))), none, some (.ref (gMt γ (oF f m 0))), some (.int (iI 0)), some (.int (iI (bwF f m dd t n))), some (.int (iI 1))]) rfl ?_)
              refine k_forget 9 (k_loc (L' := [some (.ref pl), some (.int (iI ((qq : Nat) : Int))), some (va_rf jo), some (.ref s), some (.ref (gRm γ rm)), some (va_rf lo), some (.ref (gDl γ k)), some (.int (iI (((i : Nat) : Int) + 1))), none, none, some (.int (iI 0)), some (.int (iI (bwF f m dd t n))), some (.int (iI 1))]) rfl ?_)
              refine k_forget 10 (k_loc (L' := [some (.ref pl), some (.int (iI ((qq : Nat) : Int))), some (va_rf jo), some (.ref s), some (.ref (gRm γ rm)), some (va_rf lo), some (.ref (gDl γ k)), some (.int (iI (((i : Nat) : Int) + 1))), none, none, none, some (.int (iI (bwF f m dd t n))), some (.int (iI 1))]) rfl ?_)
              refine k_forget 11 (k_loc (L' := [some (.ref pl), some (.int (iI ((qq : Nat) : Int))), some (va_rf jo), some (.ref s), some (.ref (gRm γ rm)), some (va_rf lo), some (.ref (gDl γ k)), some (.int (iI (((i : Nat) : Int) + 1))), none, none, none, none, some (.int (iI 1))]) rfl ?_)
              refine k_forget 12 (k_loc (L' := [some (.ref pl), some (.int (iI ((qq : Nat) : Int))), some (va_rf jo), some (.ref s), some (.ref (gRm γ rm)), some (va_rf lo), some (.ref (gDl γ k)), some (.int (iI (((i : Nat) : Int) + 1))), none, none, none, none, none]) rfl ?_)
              exact ih16 _ (by omega) (i + 1) rfl (by omega) (dn_s hC hi hx hB (fun z => by first | exact z.1.2.2 ((hlo m dd hi).mp c120) | (rcases z.2.1 with y | y; (first | exact c48 ((hjo m hi.1 hi.2.1).mpr y)); (exact (rp_exa hC hi.1 hi.2.1).mpr y c58)) | (rcases z.2.2 with y | ⟨y1, y2⟩; (exact c81 ((bw_neg (m := m) (d := dd) (by omega) (by omega)).mpr y)); (first | exact y1 c97 | (have y3 := (bw_gap (m := m) (d := dd) (g := f 0) (by omega) (by omega) (by omega)).mpr y2; omega)))))
            · skip
              refine k_iload (pc1 := 125) dX5_wouldClash_123 rfl rfl ?_
              refine k_if_eq (a := 0) dX5_wouldClash_125 rfl (tgt := 135) rfl (by decide) (fun _ => ?_) (fun c => absurd c (by decide))
              refine k_iinc (a := ((i : Nat) : Int)) (pc1 := 138) dX5_wouldClash_135 rfl rfl (by decide) (k_loc (L' := [some (.ref pl), some (.int (iI ((qq : Nat) : Int))), some (va_rf jo), some (.ref s), some (.ref (gRm γ rm)), some (va_rf lo), some (.ref (gDl γ k)), some (.int (iI (((i : Nat) : Int) + 1))), some (.ref (gDt γ (oF f m 0) dd)), some (.ref (gMt γ (oF f m 0))), some (.int (iI 0)), some (.int (iI (bwF f m dd t n))), some (.int (iI 1))]) rfl ?_)
              refine k_goto dX5_wouldClash_138 (tgt := 16) rfl ?_
              refine k_forget 8 (k_loc (L' := [some (.ref pl), some (.int (iI ((qq : Nat) : Int))), some (va_rf jo), some (.ref s), some (.ref (gRm γ rm)), some (va_rf lo), some (.ref (gDl γ k)), some (.int (iI (((i : Nat) : Int) + 1))), none, some (.ref (gMt γ (oF f m 0))), some (.int (iI 0)), some (.int (iI (bwF f m dd t n))), some (.int (iI 1))]) rfl ?_)
              refine k_forget 9 (k_loc (L' := [some (.ref pl), some (.int (iI ((qq : Nat) : Int))), some (va_rf jo), some (.ref s), some (.ref (gRm γ rm)), some (va_rf lo), some (.ref (gDl γ k)), some (.int (iI (((i : Nat) : Int) + 1))), none, none, some (.int (iI 0)), some (.int (iI (bwF f m dd t n))), some (.int (iI 1))]) rfl ?_)
              refine k_forget 10 (k_loc (L' := [some (.ref pl), some (.int (iI ((qq : Nat) : Int))), some (va_rf jo), some (.ref s), some (.ref (gRm γ rm)), some (va_rf lo), some (.ref (gDl γ k)), some (.int (iI (((i : Nat) : Int) + 1))), none, none, none, some (.int (iI (bwF f m dd t n))), some (.int (iI 1))]) rfl ?_)
              refine k_forget 11 (k_loc (L' := [some (.ref pl), some (.int (iI ((qq : Nat) : Int))), some (va_rf jo), some (.ref s), some (.ref (gRm γ rm)), some (va_rf lo), some (.ref (gDl γ k)), some (.int (iI (((i : Nat) : Int) + 1))), none, none, none, none, some (.int (iI 1))]) rfl ?_)
              refine k_forget 12 (k_loc (L' := [some (.ref pl), some (.int (iI ((qq : Nat) : Int))), some (va_rf jo), some (.ref s), some (.ref (gRm γ rm)), some (va_rf lo), some (.ref (gDl γ k)), some (.int (iI (((i : Nat) : Int) + 1))), none, none, none, none, none]) rfl ?_)
              exact ih16 _ (by omega) (i + 1) rfl (by omega) (dn_s hC hi hx hB (fun z => by first | exact z.1.2.2 ((hlo m dd hi).mp c120) | (rcases z.2.1 with y | y; (first | exact c48 ((hjo m hi.1 hi.2.1).mpr y)); (exact (rp_exa hC hi.1 hi.2.1).mpr y c58)) | (rcases z.2.2 with y | ⟨y1, y2⟩; (exact c81 ((bw_neg (m := m) (d := dd) (by omega) (by omega)).mpr y)); (first | exact y1 c97 | (have y3 := (bw_gap (m := m) (d := dd) (g := f 0) (by omega) (by omega) (by omega)).mpr y2; omega)))))
          · skip
            refine k_aload (pc1 := 86) dX5_wouldClash_84 rfl rfl ?_
            have hrr2 := kWf_room hC.2.2 (r := dF f m dd 3) (by omega) (by omega)
            refine k_get (pc1 := 89) dX5_wouldClash_86 rfl fd_RX5_190 (rp_D hC hi) (v := .ref (gRm γ (dF f m dd 3))) rfl ?_
            refine k_get (pc1 := 92) dX5_wouldClash_89 rfl fd_RX5_55 (rp_R hC (r := dF f m dd 3) (by omega) (by omega)) (v := .int (iI (f (9 + (dF f m dd 3)).toNat))) rfl ?_
            refine k_aload (pc1 := 94) dX5_wouldClash_92 rfl rfl ?_
            refine k_get (pc1 := 97) dX5_wouldClash_94 rfl fd_RX5_55 (rp_R hC hr.1 hr.2) (v := .int (iI (f (9 + rm).toNat))) rfl ?_
            refine k_icmp_eq (a := (f (9 + (dF f m dd 3)).toNat)) (b := (f (9 + rm).toNat)) dX5_wouldClash_97 rfl (tgt := 113) rfl (by omega) (by omega) (fun c97 : (f (9 + (dF f m dd 3)).toNat) = (f (9 + rm).toNat) => ?_) (fun c97 : (f (9 + (dF f m dd 3)).toNat) ≠ (f (9 + rm).toNat) => ?_)
            · skip
              refine k_iconst (pc1 := 114) dX5_wouldClash_113 rfl ?_
              refine k_istore (pc1 := 116) dX5_wouldClash_114 rfl (by decide) (k_loc (L' := [some (.ref pl), some (.int (iI ((qq : Nat) : Int))), some (va_rf jo), some (.ref s), some (.ref (gRm γ rm)), some (va_rf lo), some (.ref (gDl γ k)), some (.int (iI ((i : Nat) : Int))), some (.ref (gDt γ (oF f m 0) dd)), some (.ref (gMt γ (oF f m 0))), some (.int (iI 0)), some (.int (iI (bwF f m dd t n))), some (.int (iI 0))]) rfl ?_)
              refine k_aload (pc1 := 118) dX5_wouldClash_116 rfl rfl ?_
              refine k_aloadq (pc1 := 120) dX5_wouldClash_118 rfl rfl ?_
              refine k_acmp_eq (rx := (some (gDt γ (oF f m 0) dd))) (ry := lo) dX5_wouldClash_120 rfl (tgt := 135) rfl (fun c120 : (some (gDt γ (oF f m 0) dd)) = lo => ?_) (fun c120 : (some (gDt γ (oF f m 0) dd)) ≠ lo => ?_)
              · skip
                refine k_iinc (a := ((i : Nat) : Int)) (pc1 := 138) dX5_wouldClash_135 rfl rfl (by decide) (k_loc (L' := [some (.ref pl), some (.int (iI ((qq : Nat) : Int))), some (va_rf jo), some (.ref s), some (.ref (gRm γ rm)), some (va_rf lo), some (.ref (gDl γ k)), some (.int (iI (((i : Nat) : Int) + 1))), some (.ref (gDt γ (oF f m 0) dd)), some (.ref (gMt γ (oF f m 0))), some (.int (iI 0)), some (.int (iI (bwF f m dd t n))), some (.int (iI 0))]) rfl ?_)
                refine k_goto dX5_wouldClash_138 (tgt := 16) rfl ?_
                refine k_forget 8 (k_loc (L' := [some (.ref pl), some (.int (iI ((qq : Nat) : Int))), some (va_rf jo), some (.ref s), some (.ref (gRm γ rm)), some (va_rf lo), some (.ref (gDl γ k)), some (.int (iI (((i : Nat) : Int) + 1))), none, some (.ref (gMt γ (oF f m 0))), some (.int (iI 0)), some (.int (iI (bwF f m dd t n))), some (.int (iI 0))]) rfl ?_)
                refine k_forget 9 (k_loc (L' := [some (.ref pl), some (.int (iI ((qq : Nat) : Int))), some (va_rf jo), some (.ref s), some (.ref (gRm γ rm)), some (va_rf lo), some (.ref (gDl γ k)), some (.int (iI (((i : Nat) : Int) + 1))), none, none, some (.int (iI 0)), some (.int (iI (bwF f m dd t n))), some (.int (iI 0))]) rfl ?_)
                refine k_forget 10 (k_loc (L' := [some (.ref pl), some (.int (iI ((qq : Nat) : Int))), some (va_rf jo), some (.ref s), some (.ref (gRm γ rm)), some (va_rf lo), some (.ref (gDl γ k)), some (.int (iI (((i : Nat) : Int) + 1))), none, none, none, some (.int (iI (bwF f m dd t n))), some (.int (iI 0))]) rfl ?_)
                refine k_forget 11 (k_loc (L' := [some (.ref pl), some (.int (iI ((qq : Nat) : Int))), some (va_rf jo), some (.ref s), some (.ref (gRm γ rm)), some (va_rf lo), some (.ref (gDl γ k)), some (.int (iI (((i : Nat) : Int) + 1))), none, none, none, none, some (.int (iI 0))]) rfl ?_)
                refine k_forget 12 (k_loc (L' := [some (.ref pl), some (.int (iI ((qq : Nat) : Int))), some (va_rf jo), some (.ref s), some (.ref (gRm γ rm)), some (va_rf lo), some (.ref (gDl γ k)), some (.int (iI (((i : Nat) : Int) + 1))), none, none, none, none, none]) rfl ?_)
                exact ih16 _ (by omega) (i + 1) rfl (by omega) (dn_s hC hi hx hB (fun z => by first | exact z.1.2.2 ((hlo m dd hi).mp c120) | (rcases z.2.1 with y | y; (first | exact c48 ((hjo m hi.1 hi.2.1).mpr y)); (exact (rp_exa hC hi.1 hi.2.1).mpr y c58)) | (rcases z.2.2 with y | ⟨y1, y2⟩; (exact c81 ((bw_neg (m := m) (d := dd) (by omega) (by omega)).mpr y)); (first | exact y1 c97 | (have y3 := (bw_gap (m := m) (d := dd) (g := f 0) (by omega) (by omega) (by omega)).mpr y2; omega)))))
              · skip
                refine k_iload (pc1 := 125) dX5_wouldClash_123 rfl rfl ?_
                refine k_if_eq (a := 0) dX5_wouldClash_125 rfl (tgt := 135) rfl (by decide) (fun _ => ?_) (fun c => absurd c (by decide))
                refine k_iinc (a := ((i : Nat) : Int)) (pc1 := 138) dX5_wouldClash_135 rfl rfl (by decide) (k_loc (L' := [some (.ref pl), some (.int (iI ((qq : Nat) : Int))), some (va_rf jo), some (.ref s), some (.ref (gRm γ rm)), some (va_rf lo), some (.ref (gDl γ k)), some (.int (iI (((i : Nat) : Int) + 1))), some (.ref (gDt γ (oF f m 0) dd)), some (.ref (gMt γ (oF f m 0))), some (.int (iI 0)), some (.int (iI (bwF f m dd t n))), some (.int (iI 0))]) rfl ?_)
                refine k_goto dX5_wouldClash_138 (tgt := 16) rfl ?_
                refine k_forget 8 (k_loc (L' := [some (.ref pl), some (.int (iI ((qq : Nat) : Int))), some (va_rf jo), some (.ref s), some (.ref (gRm γ rm)), some (va_rf lo), some (.ref (gDl γ k)), some (.int (iI (((i : Nat) : Int) + 1))), none, some (.ref (gMt γ (oF f m 0))), some (.int (iI 0)), some (.int (iI (bwF f m dd t n))), some (.int (iI 0))]) rfl ?_)
                refine k_forget 9 (k_loc (L' := [some (.ref pl), some (.int (iI ((qq : Nat) : Int))), some (va_rf jo), some (.ref s), some (.ref (gRm γ rm)), some (va_rf lo), some (.ref (gDl γ k)), some (.int (iI (((i : Nat) : Int) + 1))), none, none, some (.int (iI 0)), some (.int (iI (bwF f m dd t n))), some (.int (iI 0))]) rfl ?_)
                refine k_forget 10 (k_loc (L' := [some (.ref pl), some (.int (iI ((qq : Nat) : Int))), some (va_rf jo), some (.ref s), some (.ref (gRm γ rm)), some (va_rf lo), some (.ref (gDl γ k)), some (.int (iI (((i : Nat) : Int) + 1))), none, none, none, some (.int (iI (bwF f m dd t n))), some (.int (iI 0))]) rfl ?_)
                refine k_forget 11 (k_loc (L' := [some (.ref pl), some (.int (iI ((qq : Nat) : Int))), some (va_rf jo), some (.ref s), some (.ref (gRm γ rm)), some (va_rf lo), some (.ref (gDl γ k)), some (.int (iI (((i : Nat) : Int) + 1))), none, none, none, none, some (.int (iI 0))]) rfl ?_)
                refine k_forget 12 (k_loc (L' := [some (.ref pl), some (.int (iI ((qq : Nat) : Int))), some (va_rf jo), some (.ref s), some (.ref (gRm γ rm)), some (va_rf lo), some (.ref (gDl γ k)), some (.int (iI (((i : Nat) : Int) + 1))), none, none, none, none, none]) rfl ?_)
                exact ih16 _ (by omega) (i + 1) rfl (by omega) (dn_s hC hi hx hB (fun z => by first | exact z.1.2.2 ((hlo m dd hi).mp c120) | (rcases z.2.1 with y | y; (first | exact c48 ((hjo m hi.1 hi.2.1).mpr y)); (exact (rp_exa hC hi.1 hi.2.1).mpr y c58)) | (rcases z.2.2 with y | ⟨y1, y2⟩; (exact c81 ((bw_neg (m := m) (d := dd) (by omega) (by omega)).mpr y)); (first | exact y1 c97 | (have y3 := (bw_gap (m := m) (d := dd) (g := f 0) (by omega) (by omega) (by omega)).mpr y2; omega)))))
            · skip
              refine k_iload (pc1 := 102) dX5_wouldClash_100 rfl rfl ?_
              refine k_aload_n (pc1 := 103) dX5_wouldClash_102 rfl rfl ?_
              refine k_get (pc1 := 106) dX5_wouldClash_103 rfl fd_RX5_32 (rp_P hC) (v := .int (iI (f 0))) rfl ?_
              refine k_icmp_ge (a := (bwF f m dd t n)) (b := (f 0)) dX5_wouldClash_106 rfl (tgt := 113) rfl (by omega) (by omega) (fun c106 : (f 0) ≤ (bwF f m dd t n) => ?_) (fun c106 : (bwF f m dd t n) < (f 0) => ?_)
              · skip
                refine k_iconst (pc1 := 114) dX5_wouldClash_113 rfl ?_
                refine k_istore (pc1 := 116) dX5_wouldClash_114 rfl (by decide) (k_loc (L' := [some (.ref pl), some (.int (iI ((qq : Nat) : Int))), some (va_rf jo), some (.ref s), some (.ref (gRm γ rm)), some (va_rf lo), some (.ref (gDl γ k)), some (.int (iI ((i : Nat) : Int))), some (.ref (gDt γ (oF f m 0) dd)), some (.ref (gMt γ (oF f m 0))), some (.int (iI 0)), some (.int (iI (bwF f m dd t n))), some (.int (iI 0))]) rfl ?_)
                refine k_aload (pc1 := 118) dX5_wouldClash_116 rfl rfl ?_
                refine k_aloadq (pc1 := 120) dX5_wouldClash_118 rfl rfl ?_
                refine k_acmp_eq (rx := (some (gDt γ (oF f m 0) dd))) (ry := lo) dX5_wouldClash_120 rfl (tgt := 135) rfl (fun c120 : (some (gDt γ (oF f m 0) dd)) = lo => ?_) (fun c120 : (some (gDt γ (oF f m 0) dd)) ≠ lo => ?_)
                · skip
                  refine k_iinc (a := ((i : Nat) : Int)) (pc1 := 138) dX5_wouldClash_135 rfl rfl (by decide) (k_loc (L' := [some (.ref pl), some (.int (iI ((qq : Nat) : Int))), some (va_rf jo), some (.ref s), some (.ref (gRm γ rm)), some (va_rf lo), some (.ref (gDl γ k)), some (.int (iI (((i : Nat) : Int) + 1))), some (.ref (gDt γ (oF f m 0) dd)), some (.ref (gMt γ (oF f m 0))), some (.int (iI 0)), some (.int (iI (bwF f m dd t n))), some (.int (iI 0))]) rfl ?_)
                  refine k_goto dX5_wouldClash_138 (tgt := 16) rfl ?_
                  refine k_forget 8 (k_loc (L' := [some (.ref pl), some (.int (iI ((qq : Nat) : Int))), some (va_rf jo), some (.ref s), some (.ref (gRm γ rm)), some (va_rf lo), some (.ref (gDl γ k)), some (.int (iI (((i : Nat) : Int) + 1))), none, some (.ref (gMt γ (oF f m 0))), some (.int (iI 0)), some (.int (iI (bwF f m dd t n))), some (.int (iI 0))]) rfl ?_)
                  refine k_forget 9 (k_loc (L' := [some (.ref pl), some (.int (iI ((qq : Nat) : Int))), some (va_rf jo), some (.ref s), some (.ref (gRm γ rm)), some (va_rf lo), some (.ref (gDl γ k)), some (.int (iI (((i : Nat) : Int) + 1))), none, none, some (.int (iI 0)), some (.int (iI (bwF f m dd t n))), some (.int (iI 0))]) rfl ?_)
                  refine k_forget 10 (k_loc (L' := [some (.ref pl), some (.int (iI ((qq : Nat) : Int))), some (va_rf jo), some (.ref s), some (.ref (gRm γ rm)), some (va_rf lo), some (.ref (gDl γ k)), some (.int (iI (((i : Nat) : Int) + 1))), none, none, none, some (.int (iI (bwF f m dd t n))), some (.int (iI 0))]) rfl ?_)
                  refine k_forget 11 (k_loc (L' := [some (.ref pl), some (.int (iI ((qq : Nat) : Int))), some (va_rf jo), some (.ref s), some (.ref (gRm γ rm)), some (va_rf lo), some (.ref (gDl γ k)), some (.int (iI (((i : Nat) : Int) + 1))), none, none, none, none, some (.int (iI 0))]) rfl ?_)
                  refine k_forget 12 (k_loc (L' := [some (.ref pl), some (.int (iI ((qq : Nat) : Int))), some (va_rf jo), some (.ref s), some (.ref (gRm γ rm)), some (va_rf lo), some (.ref (gDl γ k)), some (.int (iI (((i : Nat) : Int) + 1))), none, none, none, none, none]) rfl ?_)
                  exact ih16 _ (by omega) (i + 1) rfl (by omega) (dn_s hC hi hx hB (fun z => by first | exact z.1.2.2 ((hlo m dd hi).mp c120) | (rcases z.2.1 with y | y; (first | exact c48 ((hjo m hi.1 hi.2.1).mpr y)); (exact (rp_exa hC hi.1 hi.2.1).mpr y c58)) | (rcases z.2.2 with y | ⟨y1, y2⟩; (exact c81 ((bw_neg (m := m) (d := dd) (by omega) (by omega)).mpr y)); (first | exact y1 c97 | (have y3 := (bw_gap (m := m) (d := dd) (g := f 0) (by omega) (by omega) (by omega)).mpr y2; omega)))))
                · skip
                  refine k_iload (pc1 := 125) dX5_wouldClash_123 rfl rfl ?_
                  refine k_if_eq (a := 0) dX5_wouldClash_125 rfl (tgt := 135) rfl (by decide) (fun _ => ?_) (fun c => absurd c (by decide))
                  refine k_iinc (a := ((i : Nat) : Int)) (pc1 := 138) dX5_wouldClash_135 rfl rfl (by decide) (k_loc (L' := [some (.ref pl), some (.int (iI ((qq : Nat) : Int))), some (va_rf jo), some (.ref s), some (.ref (gRm γ rm)), some (va_rf lo), some (.ref (gDl γ k)), some (.int (iI (((i : Nat) : Int) + 1))), some (.ref (gDt γ (oF f m 0) dd)), some (.ref (gMt γ (oF f m 0))), some (.int (iI 0)), some (.int (iI (bwF f m dd t n))), some (.int (iI 0))]) rfl ?_)
                  refine k_goto dX5_wouldClash_138 (tgt := 16) rfl ?_
                  refine k_forget 8 (k_loc (L' := [some (.ref pl), some (.int (iI ((qq : Nat) : Int))), some (va_rf jo), some (.ref s), some (.ref (gRm γ rm)), some (va_rf lo), some (.ref (gDl γ k)), some (.int (iI (((i : Nat) : Int) + 1))), none, some (.ref (gMt γ (oF f m 0))), some (.int (iI 0)), some (.int (iI (bwF f m dd t n))), some (.int (iI 0))]) rfl ?_)
                  refine k_forget 9 (k_loc (L' := [some (.ref pl), some (.int (iI ((qq : Nat) : Int))), some (va_rf jo), some (.ref s), some (.ref (gRm γ rm)), some (va_rf lo), some (.ref (gDl γ k)), some (.int (iI (((i : Nat) : Int) + 1))), none, none, some (.int (iI 0)), some (.int (iI (bwF f m dd t n))), some (.int (iI 0))]) rfl ?_)
                  refine k_forget 10 (k_loc (L' := [some (.ref pl), some (.int (iI ((qq : Nat) : Int))), some (va_rf jo), some (.ref s), some (.ref (gRm γ rm)), some (va_rf lo), some (.ref (gDl γ k)), some (.int (iI (((i : Nat) : Int) + 1))), none, none, none, some (.int (iI (bwF f m dd t n))), some (.int (iI 0))]) rfl ?_)
                  refine k_forget 11 (k_loc (L' := [some (.ref pl), some (.int (iI ((qq : Nat) : Int))), some (va_rf jo), some (.ref s), some (.ref (gRm γ rm)), some (va_rf lo), some (.ref (gDl γ k)), some (.int (iI (((i : Nat) : Int) + 1))), none, none, none, none, some (.int (iI 0))]) rfl ?_)
                  refine k_forget 12 (k_loc (L' := [some (.ref pl), some (.int (iI ((qq : Nat) : Int))), some (va_rf jo), some (.ref s), some (.ref (gRm γ rm)), some (va_rf lo), some (.ref (gDl γ k)), some (.int (iI (((i : Nat) : Int) + 1))), none, none, none, none, none]) rfl ?_)
                  exact ih16 _ (by omega) (i + 1) rfl (by omega) (dn_s hC hi hx hB (fun z => by first | exact z.1.2.2 ((hlo m dd hi).mp c120) | (rcases z.2.1 with y | y; (first | exact c48 ((hjo m hi.1 hi.2.1).mpr y)); (exact (rp_exa hC hi.1 hi.2.1).mpr y c58)) | (rcases z.2.2 with y | ⟨y1, y2⟩; (exact c81 ((bw_neg (m := m) (d := dd) (by omega) (by omega)).mpr y)); (first | exact y1 c97 | (have y3 := (bw_gap (m := m) (d := dd) (g := f 0) (by omega) (by omega) (by omega)).mpr y2; omega)))))
              · skip
                refine k_iconst (pc1 := 110) dX5_wouldClash_109 rfl ?_
                refine k_goto dX5_wouldClash_110 (tgt := 114) rfl ?_
                refine k_istore (pc1 := 116) dX5_wouldClash_114 rfl (by decide) (k_loc (L' := [some (.ref pl), some (.int (iI ((qq : Nat) : Int))), some (va_rf jo), some (.ref s), some (.ref (gRm γ rm)), some (va_rf lo), some (.ref (gDl γ k)), some (.int (iI ((i : Nat) : Int))), some (.ref (gDt γ (oF f m 0) dd)), some (.ref (gMt γ (oF f m 0))), some (.int (iI 0)), some (.int (iI (bwF f m dd t n))), some (.int (iI 1))]) rfl ?_)
                refine k_aload (pc1 := 118) dX5_wouldClash_116 rfl rfl ?_
                refine k_aloadq (pc1 := 120) dX5_wouldClash_118 rfl rfl ?_
                refine k_acmp_eq (rx := (some (gDt γ (oF f m 0) dd))) (ry := lo) dX5_wouldClash_120 rfl (tgt := 135) rfl (fun c120 : (some (gDt γ (oF f m 0) dd)) = lo => ?_) (fun c120 : (some (gDt γ (oF f m 0) dd)) ≠ lo => ?_)
                · skip
                  refine k_iinc (a := ((i : Nat) : Int)) (pc1 := 138) dX5_wouldClash_135 rfl rfl (by decide) (k_loc (L' := [some (.ref pl), some (.int (iI ((qq : Nat) : Int))), some (va_rf jo), some (.ref s), some (.ref (gRm γ rm)), some (va_rf lo), some (.ref (gDl γ k)), some (.int (iI (((i : Nat) : Int) + 1))), some (.ref (gDt γ (oF f m 0) dd)), some (.ref (gMt γ (oF f m 0))), some (.int (iI 0)), some (.int (iI (bwF f m dd t n))), some (.int (iI 1))]) rfl ?_)
                  refine k_goto dX5_wouldClash_138 (tgt := 16) rfl ?_
                  refine k_forget 8 (k_loc (L' := [some (.ref pl), some (.int (iI ((qq : Nat) : Int))), some (va_rf jo), some (.ref s), some (.ref (gRm γ rm)), some (va_rf lo), some (.ref (gDl γ k)), some (.int (iI (((i : Nat) : Int) + 1))), none, some (.ref (gMt γ (oF f m 0))), some (.int (iI 0)), some (.int (iI (bwF f m dd t n))), some (.int (iI 1))]) rfl ?_)
                  refine k_forget 9 (k_loc (L' := [some (.ref pl), some (.int (iI ((qq : Nat) : Int))), some (va_rf jo), some (.ref s), some (.ref (gRm γ rm)), some (va_rf lo), some (.ref (gDl γ k)), some (.int (iI (((i : Nat) : Int) + 1))), none, none, some (.int (iI 0)), some (.int (iI (bwF f m dd t n))), some (.int (iI 1))]) rfl ?_)
                  refine k_forget 10 (k_loc (L' := [some (.ref pl), some (.int (iI ((qq : Nat) : Int))), some (va_rf jo), some (.ref s), some (.ref (gRm γ rm)), some (va_rf lo), some (.ref (gDl γ k)), some (.int (iI (((i : Nat) : Int) + 1))), none, none, none, some (.int (iI (bwF f m dd t n))), some (.int (iI 1))]) rfl ?_)
                  refine k_forget 11 (k_loc (L' := [some (.ref pl), some (.int (iI ((qq : Nat) : Int))), some (va_rf jo), some (.ref s), some (.ref (gRm γ rm)), some (va_rf lo), some (.ref (gDl γ k)), some (.int (iI (((i : Nat) : Int) + 1))), none, none, none, none, some (.int (iI 1))]) rfl ?_)
                  refine k_forget 12 (k_loc (L' := [some (.ref pl), some (.int (iI ((qq : Nat) : Int))), some (va_rf jo), some (.ref s), some (.ref (gRm γ rm)), some (va_rf lo), some (.ref (gDl γ k)), some (.int (iI (((i : Nat) : Int) + 1))), none, none, none, none, none]) rfl ?_)
                  exact ih16 _ (by omega) (i + 1) rfl (by omega) (dn_s hC hi hx hB (fun z => by first | exact z.1.2.2 ((hlo m dd hi).mp c120) | (rcases z.2.1 with y | y; (first | exact c48 ((hjo m hi.1 hi.2.1).mpr y)); (exact (rp_exa hC hi.1 hi.2.1).mpr y c58)) | (rcases z.2.2 with y | ⟨y1, y2⟩; (exact c81 ((bw_neg (m := m) (d := dd) (by omega) (by omega)).mpr y)); (first | exact y1 c97 | (have y3 := (bw_gap (m := m) (d := dd) (g := f 0) (by omega) (by omega) (by omega)).mpr y2; omega)))))
                · skip
                  refine k_iload (pc1 := 125) dX5_wouldClash_123 rfl rfl ?_
                  refine k_if_eq (a := 0) dX5_wouldClash_125 rfl (tgt := 135) rfl (by decide) (fun _ => ?_) (fun c => absurd c (by decide))
                  refine k_iinc (a := ((i : Nat) : Int)) (pc1 := 138) dX5_wouldClash_135 rfl rfl (by decide) (k_loc (L' := [some (.ref pl), some (.int (iI ((qq : Nat) : Int))), some (va_rf jo), some (.ref s), some (.ref (gRm γ rm)), some (va_rf lo), some (.ref (gDl γ k)), some (.int (iI (((i : Nat) : Int) + 1))), some (.ref (gDt γ (oF f m 0) dd)), some (.ref (gMt γ (oF f m 0))), some (.int (iI 0)), some (.int (iI (bwF f m dd t n))), some (.int (iI 1))]) rfl ?_)
                  refine k_goto dX5_wouldClash_138 (tgt := 16) rfl ?_
                  refine k_forget 8 (k_loc (L' := [some (.ref pl), some (.int (iI ((qq : Nat) : Int))), some (va_rf jo), some (.ref s), some (.ref (gRm γ rm)), some (va_rf lo), some (.ref (gDl γ k)), some (.int (iI (((i : Nat) : Int) + 1))), none, some (.ref (gMt γ (oF f m 0))), some (.int (iI 0)), some (.int (iI (bwF f m dd t n))), some (.int (iI 1))]) rfl ?_)
                  refine k_forget 9 (k_loc (L' := [some (.ref pl), some (.int (iI ((qq : Nat) : Int))), some (va_rf jo), some (.ref s), some (.ref (gRm γ rm)), some (va_rf lo), some (.ref (gDl γ k)), some (.int (iI (((i : Nat) : Int) + 1))), none, none, some (.int (iI 0)), some (.int (iI (bwF f m dd t n))), some (.int (iI 1))]) rfl ?_)
                  refine k_forget 10 (k_loc (L' := [some (.ref pl), some (.int (iI ((qq : Nat) : Int))), some (va_rf jo), some (.ref s), some (.ref (gRm γ rm)), some (va_rf lo), some (.ref (gDl γ k)), some (.int (iI (((i : Nat) : Int) + 1))), none, none, none, some (.int (iI (bwF f m dd t n))), some (.int (iI 1))]) rfl ?_)
                  refine k_forget 11 (k_loc (L' := [some (.ref pl), some (.int (iI ((qq : Nat) : Int))), some (va_rf jo), some (.ref s), some (.ref (gRm γ rm)), some (va_rf lo), some (.ref (gDl γ k)), some (.int (iI (((i : Nat) : Int) + 1))), none, none, none, none, some (.int (iI 1))]) rfl ?_)
                  refine k_forget 12 (k_loc (L' := [some (.ref pl), some (.int (iI ((qq : Nat) : Int))), some (va_rf jo), some (.ref s), some (.ref (gRm γ rm)), some (va_rf lo), some (.ref (gDl γ k)), some (.int (iI (((i : Nat) : Int) + 1))), none, none, none, none, none]) rfl ?_)
                  exact ih16 _ (by omega) (i + 1) rfl (by omega) (dn_s hC hi hx hB (fun z => by first | exact z.1.2.2 ((hlo m dd hi).mp c120) | (rcases z.2.1 with y | y; (first | exact c48 ((hjo m hi.1 hi.2.1).mpr y)); (exact (rp_exa hC hi.1 hi.2.1).mpr y c58)) | (rcases z.2.2 with y | ⟨y1, y2⟩; (exact c81 ((bw_neg (m := m) (d := dd) (by omega) (by omega)).mpr y)); (first | exact y1 c97 | (have y3 := (bw_gap (m := m) (d := dd) (g := f 0) (by omega) (by omega) (by omega)).mpr y2; omega)))))
        · skip
          refine k_iconst (pc1 := 62) dX5_wouldClash_61 rfl ?_
          refine k_goto dX5_wouldClash_62 (tgt := 66) rfl ?_
          refine k_istore (pc1 := 68) dX5_wouldClash_66 rfl (by decide) (k_loc (L' := [some (.ref pl), some (.int (iI ((qq : Nat) : Int))), some (va_rf jo), some (.ref s), some (.ref (gRm γ rm)), some (va_rf lo), some (.ref (gDl γ k)), some (.int (iI ((i : Nat) : Int))), some (.ref (gDt γ (oF f m 0) dd)), some (.ref (gMt γ (oF f m 0))), some (.int (iI 1)), none, none]) rfl ?_)
          refine k_aload (pc1 := 70) dX5_wouldClash_68 rfl rfl ?_
          refine k_get (pc1 := 73) dX5_wouldClash_70 rfl fd_RX5_108 (rp_D hC hi) (v := .ref (gSt γ (oF f m 0) dd)) rfl ?_
          refine k_aload_n (pc1 := 74) dX5_wouldClash_73 rfl rfl ?_
          refine k_callVP dX5_wouldClash_74 rfl lk_RX5_337 o_X4_timesBetween (w_X4_timesBetween hl (rp_S hC hi) hS ⟨by omega, by omega⟩ ⟨by omega, by omega⟩ ⟨by omega, by omega⟩ ⟨by omega, by omega⟩) (as := [.ref s]) (rp_S hC hi) rfl rfl rfl rfl (by decide) (by decide) (k8 rfl) ?_
          refine k_istore (pc1 := 79) dX5_wouldClash_77 rfl (by decide) (k_loc (L' := [some (.ref pl), some (.int (iI ((qq : Nat) : Int))), some (va_rf jo), some (.ref s), some (.ref (gRm γ rm)), some (va_rf lo), some (.ref (gDl γ k)), some (.int (iI ((i : Nat) : Int))), some (.ref (gDt γ (oF f m 0) dd)), some (.ref (gMt γ (oF f m 0))), some (.int (iI 1)), some (.int (iI (bwF f m dd t n))), none]) rfl ?_)
          have hbr := bw_r (f := f) (m := m) (d := dd) (t := t) (n := n) ⟨by omega, by omega⟩ ⟨by omega, by omega⟩ ⟨by omega, by omega⟩ ⟨by omega, by omega⟩
          refine k_iload (pc1 := 81) dX5_wouldClash_79 rfl rfl ?_
          refine k_if_lt (a := (bwF f m dd t n)) dX5_wouldClash_81 rfl (tgt := 109) rfl (by omega) (fun c81 : (bwF f m dd t n) < 0 => ?_) (fun c81 : ¬ (bwF f m dd t n) < 0 => ?_)
          · skip
            refine k_iconst (pc1 := 110) dX5_wouldClash_109 rfl ?_
            refine k_goto dX5_wouldClash_110 (tgt := 114) rfl ?_
            refine k_istore (pc1 := 116) dX5_wouldClash_114 rfl (by decide) (k_loc (L' := [some (.ref pl), some (.int (iI ((qq : Nat) : Int))), some (va_rf jo), some (.ref s), some (.ref (gRm γ rm)), some (va_rf lo), some (.ref (gDl γ k)), some (.int (iI ((i : Nat) : Int))), some (.ref (gDt γ (oF f m 0) dd)), some (.ref (gMt γ (oF f m 0))), some (.int (iI 1)), some (.int (iI (bwF f m dd t n))), some (.int (iI 1))]) rfl ?_)
            refine k_aload (pc1 := 118) dX5_wouldClash_116 rfl rfl ?_
            refine k_aloadq (pc1 := 120) dX5_wouldClash_118 rfl rfl ?_
            refine k_acmp_eq (rx := (some (gDt γ (oF f m 0) dd))) (ry := lo) dX5_wouldClash_120 rfl (tgt := 135) rfl (fun c120 : (some (gDt γ (oF f m 0) dd)) = lo => ?_) (fun c120 : (some (gDt γ (oF f m 0) dd)) ≠ lo => ?_)
            · skip
              refine k_iinc (a := ((i : Nat) : Int)) (pc1 := 138) dX5_wouldClash_135 rfl rfl (by decide) (k_loc (L' := [some (.ref pl), some (.int (iI ((qq : Nat) : Int))), some (va_rf jo), some (.ref s), some (.ref (gRm γ rm)), some (va_rf lo), some (.ref (gDl γ k)), some (.int (iI (((i : Nat) : Int) + 1))), some (.ref (gDt γ (oF f m 0) dd)), some (.ref (gMt γ (oF f m 0))), some (.int (iI 1)), some (.int (iI (bwF f m dd t n))), some (.int (iI 1))]) rfl ?_)
              refine k_goto dX5_wouldClash_138 (tgt := 16) rfl ?_
              refine k_forget 8 (k_loc (L' := [some (.ref pl), some (.int (iI ((qq : Nat) : Int))), some (va_rf jo), some (.ref s), some (.ref (gRm γ rm)), some (va_rf lo), some (.ref (gDl γ k)), some (.int (iI (((i : Nat) : Int) + 1))), none, some (.ref (gMt γ (oF f m 0))), some (.int (iI 1)), some (.int (iI (bwF f m dd t n))), some (.int (iI 1))]) rfl ?_)
              refine k_forget 9 (k_loc (L' := [some (.ref pl), some (.int (iI ((qq : Nat) : Int))), some (va_rf jo), some (.ref s), some (.ref (gRm γ rm)), some (va_rf lo), some (.ref (gDl γ k)), some (.int (iI (((i : Nat) : Int) + 1))), none, none, some (.int (iI 1)), some (.int (iI (bwF f m dd t n))), some (.int (iI 1))]) rfl ?_)
              refine k_forget 10 (k_loc (L' := [some (.ref pl), some (.int (iI ((qq : Nat) : Int))), some (va_rf jo), some (.ref s), some (.ref (gRm γ rm)), some (va_rf lo), some (.ref (gDl γ k)), some (.int (iI (((i : Nat) : Int) + 1))), none, none, none, some (.int (iI (bwF f m dd t n))), some (.int (iI 1))]) rfl ?_)
              refine k_forget 11 (k_loc (L' := [some (.ref pl), some (.int (iI ((qq : Nat) : Int))), some (va_rf jo), some (.ref s), some (.ref (gRm γ rm)), some (va_rf lo), some (.ref (gDl γ k)), some (.int (iI (((i : Nat) : Int) + 1))), none, none, none, none, some (.int (iI 1))]) rfl ?_)
              refine k_forget 12 (k_loc (L' := [some (.ref pl), some (.int (iI ((qq : Nat) : Int))), some (va_rf jo), some (.ref s), some (.ref (gRm γ rm)), some (va_rf lo), some (.ref (gDl γ k)), some (.int (iI (((i : Nat) : Int) + 1))), none, none, none, none, none]) rfl ?_)
              exact ih16 _ (by omega) (i + 1) rfl (by omega) (dn_s hC hi hx hB (fun z => by first | exact z.1.2.2 ((hlo m dd hi).mp c120) | (rcases z.2.1 with y | y; (first | exact c48 ((hjo m hi.1 hi.2.1).mpr y)); (exact (rp_exa hC hi.1 hi.2.1).mpr y c58)) | (rcases z.2.2 with y | ⟨y1, y2⟩; (exact c81 ((bw_neg (m := m) (d := dd) (by omega) (by omega)).mpr y)); (first | exact y1 c97 | (have y3 := (bw_gap (m := m) (d := dd) (g := f 0) (by omega) (by omega) (by omega)).mpr y2; omega)))))
            · skip
              refine k_iload (pc1 := 125) dX5_wouldClash_123 rfl rfl ?_
              refine k_if_eq (a := 1) dX5_wouldClash_125 rfl (tgt := 135) rfl (by decide) (fun c => absurd c (by decide)) (fun _ => ?_)
              refine k_iload (pc1 := 130) dX5_wouldClash_128 rfl rfl ?_
              refine k_if_eq (a := 1) dX5_wouldClash_130 rfl (tgt := 135) rfl (by decide) (fun c => absurd c (by decide)) (fun _ => ?_)
              refine k_iconst (pc1 := 134) dX5_wouldClash_133 rfl ?_
              exact k_iret dX5_wouldClash_134 rfl rfl (kret (kB_t ⟨m, dd, hi, ⟨ho, hk2, fun z => c120 ((hlo m dd hi).mpr z)⟩, (by first | exact Or.inl ((hjo m hi.1 hi.2.1).mp c48) | exact Or.inr ((rp_exa hC hi.1 hi.2.1).mp c58)), (by first | exact Or.inl ((bw_neg (by omega) (by omega)).mp c81) | exact Or.inr ⟨c97, (bw_gap (by omega) (by omega) (by omega)).mp c106⟩)⟩).symm _)
          · skip
            refine k_aload (pc1 := 86) dX5_wouldClash_84 rfl rfl ?_
            have hrr2 := kWf_room hC.2.2 (r := dF f m dd 3) (by omega) (by omega)
            refine k_get (pc1 := 89) dX5_wouldClash_86 rfl fd_RX5_190 (rp_D hC hi) (v := .ref (gRm γ (dF f m dd 3))) rfl ?_
            refine k_get (pc1 := 92) dX5_wouldClash_89 rfl fd_RX5_55 (rp_R hC (r := dF f m dd 3) (by omega) (by omega)) (v := .int (iI (f (9 + (dF f m dd 3)).toNat))) rfl ?_
            refine k_aload (pc1 := 94) dX5_wouldClash_92 rfl rfl ?_
            refine k_get (pc1 := 97) dX5_wouldClash_94 rfl fd_RX5_55 (rp_R hC hr.1 hr.2) (v := .int (iI (f (9 + rm).toNat))) rfl ?_
            refine k_icmp_eq (a := (f (9 + (dF f m dd 3)).toNat)) (b := (f (9 + rm).toNat)) dX5_wouldClash_97 rfl (tgt := 113) rfl (by omega) (by omega) (fun c97 : (f (9 + (dF f m dd 3)).toNat) = (f (9 + rm).toNat) => ?_) (fun c97 : (f (9 + (dF f m dd 3)).toNat) ≠ (f (9 + rm).toNat) => ?_)
            · skip
              refine k_iconst (pc1 := 114) dX5_wouldClash_113 rfl ?_
              refine k_istore (pc1 := 116) dX5_wouldClash_114 rfl (by decide) (k_loc (L' := [some (.ref pl), some (.int (iI ((qq : Nat) : Int))), some (va_rf jo), some (.ref s), some (.ref (gRm γ rm)), some (va_rf lo), some (.ref (gDl γ k)), some (.int (iI ((i : Nat) : Int))), some (.ref (gDt γ (oF f m 0) dd)), some (.ref (gMt γ (oF f m 0))), some (.int (iI 1)), some (.int (iI (bwF f m dd t n))), some (.int (iI 0))]) rfl ?_)
              refine k_aload (pc1 := 118) dX5_wouldClash_116 rfl rfl ?_
              refine k_aloadq (pc1 := 120) dX5_wouldClash_118 rfl rfl ?_
              refine k_acmp_eq (rx := (some (gDt γ (oF f m 0) dd))) (ry := lo) dX5_wouldClash_120 rfl (tgt := 135) rfl (fun c120 : (some (gDt γ (oF f m 0) dd)) = lo => ?_) (fun c120 : (some (gDt γ (oF f m 0) dd)) ≠ lo => ?_)
              · skip
                refine k_iinc (a := ((i : Nat) : Int)) (pc1 := 138) dX5_wouldClash_135 rfl rfl (by decide) (k_loc (L' := [some (.ref pl), some (.int (iI ((qq : Nat) : Int))), some (va_rf jo), some (.ref s), some (.ref (gRm γ rm)), some (va_rf lo), some (.ref (gDl γ k)), some (.int (iI (((i : Nat) : Int) + 1))), some (.ref (gDt γ (oF f m 0) dd)), some (.ref (gMt γ (oF f m 0))), some (.int (iI 1)), some (.int (iI (bwF f m dd t n))), some (.int (iI 0))]) rfl ?_)
                refine k_goto dX5_wouldClash_138 (tgt := 16) rfl ?_
                refine k_forget 8 (k_loc (L' := [some (.ref pl), some (.int (iI ((qq : Nat) : Int))), some (va_rf jo), some (.ref s), some (.ref (gRm γ rm)), some (va_rf lo), some (.ref (gDl γ k)), some (.int (iI (((i : Nat) : Int) + 1))), none, some (.ref (gMt γ (oF f m 0))), some (.int (iI 1)), some (.int (iI (bwF f m dd t n))), some (.int (iI 0))]) rfl ?_)
                refine k_forget 9 (k_loc (L' := [some (.ref pl), some (.int (iI ((qq : Nat) : Int))), some (va_rf jo), some (.ref s), some (.ref (gRm γ rm)), some (va_rf lo), some (.ref (gDl γ k)), some (.int (iI (((i : Nat) : Int) + 1))), none, none, some (.int (iI 1)), some (.int (iI (bwF f m dd t n))), some (.int (iI 0))]) rfl ?_)
                refine k_forget 10 (k_loc (L' := [some (.ref pl), some (.int (iI ((qq : Nat) : Int))), some (va_rf jo), some (.ref s), some (.ref (gRm γ rm)), some (va_rf lo), some (.ref (gDl γ k)), some (.int (iI (((i : Nat) : Int) + 1))), none, none, none, some (.int (iI (bwF f m dd t n))), some (.int (iI 0))]) rfl ?_)
                refine k_forget 11 (k_loc (L' := [some (.ref pl), some (.int (iI ((qq : Nat) : Int))), some (va_rf jo), some (.ref s), some (.ref (gRm γ rm)), some (va_rf lo), some (.ref (gDl γ k)), some (.int (iI (((i : Nat) : Int) + 1))), none, none, none, none, some (.int (iI 0))]) rfl ?_)
                refine k_forget 12 (k_loc (L' := [some (.ref pl), some (.int (iI ((qq : Nat) : Int))), some (va_rf jo), some (.ref s), some (.ref (gRm γ rm)), some (va_rf lo), some (.ref (gDl γ k)), some (.int (iI (((i : Nat) : Int) + 1))), none, none, none, none, none]) rfl ?_)
                exact ih16 _ (by omega) (i + 1) rfl (by omega) (dn_s hC hi hx hB (fun z => by first | exact z.1.2.2 ((hlo m dd hi).mp c120) | (rcases z.2.1 with y | y; (first | exact c48 ((hjo m hi.1 hi.2.1).mpr y)); (exact (rp_exa hC hi.1 hi.2.1).mpr y c58)) | (rcases z.2.2 with y | ⟨y1, y2⟩; (exact c81 ((bw_neg (m := m) (d := dd) (by omega) (by omega)).mpr y)); (first | exact y1 c97 | (have y3 := (bw_gap (m := m) (d := dd) (g := f 0) (by omega) (by omega) (by omega)).mpr y2; omega)))))
              · skip
                refine k_iload (pc1 := 125) dX5_wouldClash_123 rfl rfl ?_
                refine k_if_eq (a := 1) dX5_wouldClash_125 rfl (tgt := 135) rfl (by decide) (fun c => absurd c (by decide)) (fun _ => ?_)
                refine k_iload (pc1 := 130) dX5_wouldClash_128 rfl rfl ?_
                refine k_if_eq (a := 0) dX5_wouldClash_130 rfl (tgt := 135) rfl (by decide) (fun _ => ?_) (fun c => absurd c (by decide))
                refine k_iinc (a := ((i : Nat) : Int)) (pc1 := 138) dX5_wouldClash_135 rfl rfl (by decide) (k_loc (L' := [some (.ref pl), some (.int (iI ((qq : Nat) : Int))), some (va_rf jo), some (.ref s), some (.ref (gRm γ rm)), some (va_rf lo), some (.ref (gDl γ k)), some (.int (iI (((i : Nat) : Int) + 1))), some (.ref (gDt γ (oF f m 0) dd)), some (.ref (gMt γ (oF f m 0))), some (.int (iI 1)), some (.int (iI (bwF f m dd t n))), some (.int (iI 0))]) rfl ?_)
                refine k_goto dX5_wouldClash_138 (tgt := 16) rfl ?_
                refine k_forget 8 (k_loc (L' := [some (.ref pl), some (.int (iI ((qq : Nat) : Int))), some (va_rf jo), some (.ref s), some (.ref (gRm γ rm)), some (va_rf lo), some (.ref (gDl γ k)), some (.int (iI (((i : Nat) : Int) + 1))), none, some (.ref (gMt γ (oF f m 0))), some (.int (iI 1)), some (.int (iI (bwF f m dd t n))), some (.int (iI 0))]) rfl ?_)
                refine k_forget 9 (k_loc (L' := [some (.ref pl), some (.int (iI ((qq : Nat) : Int))), some (va_rf jo), some (.ref s), some (.ref (gRm γ rm)), some (va_rf lo), some (.ref (gDl γ k)), some (.int (iI (((i : Nat) : Int) + 1))), none, none, some (.int (iI 1)), some (.int (iI (bwF f m dd t n))), some (.int (iI 0))]) rfl ?_)
                refine k_forget 10 (k_loc (L' := [some (.ref pl), some (.int (iI ((qq : Nat) : Int))), some (va_rf jo), some (.ref s), some (.ref (gRm γ rm)), some (va_rf lo), some (.ref (gDl γ k)), some (.int (iI (((i : Nat) : Int) + 1))), none, none, none, some (.int (iI (bwF f m dd t n))), some (.int (iI 0))]) rfl ?_)
                refine k_forget 11 (k_loc (L' := [some (.ref pl), some (.int (iI ((qq : Nat) : Int))), some (va_rf jo), some (.ref s), some (.ref (gRm γ rm)), some (va_rf lo), some (.ref (gDl γ k)), some (.int (iI (((i : Nat) : Int) + 1))), none, none, none, none, some (.int (iI 0))]) rfl ?_)
                refine k_forget 12 (k_loc (L' := [some (.ref pl), some (.int (iI ((qq : Nat) : Int))), some (va_rf jo), some (.ref s), some (.ref (gRm γ rm)), some (va_rf lo), some (.ref (gDl γ k)), some (.int (iI (((i : Nat) : Int) + 1))), none, none, none, none, none]) rfl ?_)
                exact ih16 _ (by omega) (i + 1) rfl (by omega) (dn_s hC hi hx hB (fun z => by first | exact z.1.2.2 ((hlo m dd hi).mp c120) | (rcases z.2.1 with y | y; (first | exact c48 ((hjo m hi.1 hi.2.1).mpr y)); (exact (rp_exa hC hi.1 hi.2.1).mpr y c58)) | (rcases z.2.2 with y | ⟨y1, y2⟩; (exact c81 ((bw_neg (m := m) (d := dd) (by omega) (by omega)).mpr y)); (first | exact y1 c97 | (have y3 := (bw_gap (m := m) (d := dd) (g := f 0) (by omega) (by omega) (by omega)).mpr y2; omega)))))
            · skip
              refine k_iload (pc1 := 102) dX5_wouldClash_100 rfl rfl ?_
              refine k_aload_n (pc1 := 103) dX5_wouldClash_102 rfl rfl ?_
              refine k_get (pc1 := 106) dX5_wouldClash_103 rfl fd_RX5_32 (rp_P hC) (v := .int (iI (f 0))) rfl ?_
              refine k_icmp_ge (a := (bwF f m dd t n)) (b := (f 0)) dX5_wouldClash_106 rfl (tgt := 113) rfl (by omega) (by omega) (fun c106 : (f 0) ≤ (bwF f m dd t n) => ?_) (fun c106 : (bwF f m dd t n) < (f 0) => ?_)
              · skip
                refine k_iconst (pc1 := 114) dX5_wouldClash_113 rfl ?_
                refine k_istore (pc1 := 116) dX5_wouldClash_114 rfl (by decide) (k_loc (L' := [some (.ref pl), some (.int (iI ((qq : Nat) : Int))), some (va_rf jo), some (.ref s), some (.ref (gRm γ rm)), some (va_rf lo), some (.ref (gDl γ k)), some (.int (iI ((i : Nat) : Int))), some (.ref (gDt γ (oF f m 0) dd)), some (.ref (gMt γ (oF f m 0))), some (.int (iI 1)), some (.int (iI (bwF f m dd t n))), some (.int (iI 0))]) rfl ?_)
                refine k_aload (pc1 := 118) dX5_wouldClash_116 rfl rfl ?_
                refine k_aloadq (pc1 := 120) dX5_wouldClash_118 rfl rfl ?_
                refine k_acmp_eq (rx := (some (gDt γ (oF f m 0) dd))) (ry := lo) dX5_wouldClash_120 rfl (tgt := 135) rfl (fun c120 : (some (gDt γ (oF f m 0) dd)) = lo => ?_) (fun c120 : (some (gDt γ (oF f m 0) dd)) ≠ lo => ?_)
                · skip
                  refine k_iinc (a := ((i : Nat) : Int)) (pc1 := 138) dX5_wouldClash_135 rfl rfl (by decide) (k_loc (L' := [some (.ref pl), some (.int (iI ((qq : Nat) : Int))), some (va_rf jo), some (.ref s), some (.ref (gRm γ rm)), some (va_rf lo), some (.ref (gDl γ k)), some (.int (iI (((i : Nat) : Int) + 1))), some (.ref (gDt γ (oF f m 0) dd)), some (.ref (gMt γ (oF f m 0))), some (.int (iI 1)), some (.int (iI (bwF f m dd t n))), some (.int (iI 0))]) rfl ?_)
                  refine k_goto dX5_wouldClash_138 (tgt := 16) rfl ?_
                  refine k_forget 8 (k_loc (L' := [some (.ref pl), some (.int (iI ((qq : Nat) : Int))), some (va_rf jo), some (.ref s), some (.ref (gRm γ rm)), some (va_rf lo), some (.ref (gDl γ k)), some (.int (iI (((i : Nat) : Int) + 1))), none, some (.ref (gMt γ (oF f m 0))), some (.int (iI 1)), some (.int (iI (bwF f m dd t n))), some (.int (iI 0))]) rfl ?_)
                  refine k_forget 9 (k_loc (L' := [some (.ref pl), some (.int (iI ((qq : Nat) : Int))), some (va_rf jo), some (.ref s), some (.ref (gRm γ rm)), some (va_rf lo), some (.ref (gDl γ k)), some (.int (iI (((i : Nat) : Int) + 1))), none, none, some (.int (iI 1)), some (.int (iI (bwF f m dd t n))), some (.int (iI 0))]) rfl ?_)
                  refine k_forget 10 (k_loc (L' := [some (.ref pl), some (.int (iI ((qq : Nat) : Int))), some (va_rf jo), some (.ref s), some (.ref (gRm γ rm)), some (va_rf lo), some (.ref (gDl γ k)), some (.int (iI (((i : Nat) : Int) + 1))), none, none, none, some (.int (iI (bwF f m dd t n))), some (.int (iI 0))]) rfl ?_)
                  refine k_forget 11 (k_loc (L' := [some (.ref pl), some (.int (iI ((qq : Nat) : Int))), some (va_rf jo), some (.ref s), some (.ref (gRm γ rm)), some (va_rf lo), some (.ref (gDl γ k)), some (.int (iI (((i : Nat) : Int) + 1))), none, none, none, none, some (.int (iI 0))]) rfl ?_)
                  refine k_forget 12 (k_loc (L' := [some (.ref pl), some (.int (iI ((qq : Nat) : Int))), some (va_rf jo), some (.ref s), some (.ref (gRm γ rm)), some (va_rf lo), some (.ref (gDl γ k)), some (.int (iI (((i : Nat) : Int) + 1))), none, none, none, none, none]) rfl ?_)
                  exact ih16 _ (by omega) (i + 1) rfl (by omega) (dn_s hC hi hx hB (fun z => by first | exact z.1.2.2 ((hlo m dd hi).mp c120) | (rcases z.2.1 with y | y; (first | exact c48 ((hjo m hi.1 hi.2.1).mpr y)); (exact (rp_exa hC hi.1 hi.2.1).mpr y c58)) | (rcases z.2.2 with y | ⟨y1, y2⟩; (exact c81 ((bw_neg (m := m) (d := dd) (by omega) (by omega)).mpr y)); (first | exact y1 c97 | (have y3 := (bw_gap (m := m) (d := dd) (g := f 0) (by omega) (by omega) (by omega)).mpr y2; omega)))))
                · skip
                  refine k_iload (pc1 := 125) dX5_wouldClash_123 rfl rfl ?_
                  refine k_if_eq (a := 1) dX5_wouldClash_125 rfl (tgt := 135) rfl (by decide) (fun c => absurd c (by decide)) (fun _ => ?_)
                  refine k_iload (pc1 := 130) dX5_wouldClash_128 rfl rfl ?_
                  refine k_if_eq (a := 0) dX5_wouldClash_130 rfl (tgt := 135) rfl (by decide) (fun _ => ?_) (fun c => absurd c (by decide))
                  refine k_iinc (a := ((i : Nat) : Int)) (pc1 := 138) dX5_wouldClash_135 rfl rfl (by decide) (k_loc (L' := [some (.ref pl), some (.int (iI ((qq : Nat) : Int))), some (va_rf jo), some (.ref s), some (.ref (gRm γ rm)), some (va_rf lo), some (.ref (gDl γ k)), some (.int (iI (((i : Nat) : Int) + 1))), some (.ref (gDt γ (oF f m 0) dd)), some (.ref (gMt γ (oF f m 0))), some (.int (iI 1)), some (.int (iI (bwF f m dd t n))), some (.int (iI 0))]) rfl ?_)
                  refine k_goto dX5_wouldClash_138 (tgt := 16) rfl ?_
                  refine k_forget 8 (k_loc (L' := [some (.ref pl), some (.int (iI ((qq : Nat) : Int))), some (va_rf jo), some (.ref s), some (.ref (gRm γ rm)), some (va_rf lo), some (.ref (gDl γ k)), some (.int (iI (((i : Nat) : Int) + 1))), none, some (.ref (gMt γ (oF f m 0))), some (.int (iI 1)), some (.int (iI (bwF f m dd t n))), some (.int (iI 0))]) rfl ?_)
                  refine k_forget 9 (k_loc (L' := [some (.ref pl), some (.int (iI ((qq : Nat) : Int))), some (va_rf jo), some (.ref s), some (.ref (gRm γ rm)), some (va_rf lo), some (.ref (gDl γ k)), some (.int (iI (((i : Nat) : Int) + 1))), none, none, some (.int (iI 1)), some (.int (iI (bwF f m dd t n))), some (.int (iI 0))]) rfl ?_)
                  refine k_forget 10 (k_loc (L' := [some (.ref pl), some (.int (iI ((qq : Nat) : Int))), some (va_rf jo), some (.ref s), some (.ref (gRm γ rm)), some (va_rf lo), some (.ref (gDl γ k)), some (.int (iI (((i : Nat) : Int) + 1))), none, none, none, some (.int (iI (bwF f m dd t n))), some (.int (iI 0))]) rfl ?_)
                  refine k_forget 11 (k_loc (L' := [some (.ref pl), some (.int (iI ((qq : Nat) : Int))), some (va_rf jo), some (.ref s), some (.ref (gRm γ rm)), some (va_rf lo), some (.ref (gDl γ k)), some (.int (iI (((i : Nat) : Int) + 1))), none, none, none, none, some (.int (iI 0))]) rfl ?_)
                  refine k_forget 12 (k_loc (L' := [some (.ref pl), some (.int (iI ((qq : Nat) : Int))), some (va_rf jo), some (.ref s), some (.ref (gRm γ rm)), some (va_rf lo), some (.ref (gDl γ k)), some (.int (iI (((i : Nat) : Int) + 1))), none, none, none, none, none]) rfl ?_)
                  exact ih16 _ (by omega) (i + 1) rfl (by omega) (dn_s hC hi hx hB (fun z => by first | exact z.1.2.2 ((hlo m dd hi).mp c120) | (rcases z.2.1 with y | y; (first | exact c48 ((hjo m hi.1 hi.2.1).mpr y)); (exact (rp_exa hC hi.1 hi.2.1).mpr y c58)) | (rcases z.2.2 with y | ⟨y1, y2⟩; (exact c81 ((bw_neg (m := m) (d := dd) (by omega) (by omega)).mpr y)); (first | exact y1 c97 | (have y3 := (bw_gap (m := m) (d := dd) (g := f 0) (by omega) (by omega) (by omega)).mpr y2; omega)))))
              · skip
                refine k_iconst (pc1 := 110) dX5_wouldClash_109 rfl ?_
                refine k_goto dX5_wouldClash_110 (tgt := 114) rfl ?_
                refine k_istore (pc1 := 116) dX5_wouldClash_114 rfl (by decide) (k_loc (L' := [some (.ref pl), some (.int (iI ((qq : Nat) : Int))), some (va_rf jo), some (.ref s), some (.ref (gRm γ rm)), some (va_rf lo), some (.ref (gDl γ k)), some (.int (iI ((i : Nat) : Int))), some (.ref (gDt γ (oF f m 0) dd)), some (.ref (gMt γ (oF f m 0))), some (.int (iI 1)), some (.int (iI (bwF f m dd t n))), some (.int (iI 1))]) rfl ?_)
                refine k_aload (pc1 := 118) dX5_wouldClash_116 rfl rfl ?_
                refine k_aloadq (pc1 := 120) dX5_wouldClash_118 rfl rfl ?_
                refine k_acmp_eq (rx := (some (gDt γ (oF f m 0) dd))) (ry := lo) dX5_wouldClash_120 rfl (tgt := 135) rfl (fun c120 : (some (gDt γ (oF f m 0) dd)) = lo => ?_) (fun c120 : (some (gDt γ (oF f m 0) dd)) ≠ lo => ?_)
                · skip
                  refine k_iinc (a := ((i : Nat) : Int)) (pc1 := 138) dX5_wouldClash_135 rfl rfl (by decide) (k_loc (L' := [some (.ref pl), some (.int (iI ((qq : Nat) : Int))), some (va_rf jo), some (.ref s), some (.ref (gRm γ rm)), some (va_rf lo), some (.ref (gDl γ k)), some (.int (iI (((i : Nat) : Int) + 1))), some (.ref (gDt γ (oF f m 0) dd)), some (.ref (gMt γ (oF f m 0))), some (.int (iI 1)), some (.int (iI (bwF f m dd t n))), some (.int (iI 1))]) rfl ?_)
                  refine k_goto dX5_wouldClash_138 (tgt := 16) rfl ?_
                  refine k_forget 8 (k_loc (L' := [some (.ref pl), some (.int (iI ((qq : Nat) : Int))), some (va_rf jo), some (.ref s), some (.ref (gRm γ rm)), some (va_rf lo), some (.ref (gDl γ k)), some (.int (iI (((i : Nat) : Int) + 1))), none, some (.ref (gMt γ (oF f m 0))), some (.int (iI 1)), some (.int (iI (bwF f m dd t n))), some (.int (iI 1))]) rfl ?_)
                  refine k_forget 9 (k_loc (L' := [some (.ref pl), some (.int (iI ((qq : Nat) : Int))), some (va_rf jo), some (.ref s), some (.ref (gRm γ rm)), some (va_rf lo), some (.ref (gDl γ k)), some (.int (iI (((i : Nat) : Int) + 1))), none, none, some (.int (iI 1)), some (.int (iI (bwF f m dd t n))), some (.int (iI 1))]) rfl ?_)
                  refine k_forget 10 (k_loc (L' := [some (.ref pl), some (.int (iI ((qq : Nat) : Int))), some (va_rf jo), some (.ref s), some (.ref (gRm γ rm)), some (va_rf lo), some (.ref (gDl γ k)), some (.int (iI (((i : Nat) : Int) + 1))), none, none, none, some (.int (iI (bwF f m dd t n))), some (.int (iI 1))]) rfl ?_)
                  refine k_forget 11 (k_loc (L' := [some (.ref pl), some (.int (iI ((qq : Nat) : Int))), some (va_rf jo), some (.ref s), some (.ref (gRm γ rm)), some (va_rf lo), some (.ref (gDl γ k)), some (.int (iI (((i : Nat) : Int) + 1))), none, none, none, none, some (.int (iI 1))]) rfl ?_)
                  refine k_forget 12 (k_loc (L' := [some (.ref pl), some (.int (iI ((qq : Nat) : Int))), some (va_rf jo), some (.ref s), some (.ref (gRm γ rm)), some (va_rf lo), some (.ref (gDl γ k)), some (.int (iI (((i : Nat) : Int) + 1))), none, none, none, none, none]) rfl ?_)
                  exact ih16 _ (by omega) (i + 1) rfl (by omega) (dn_s hC hi hx hB (fun z => by first | exact z.1.2.2 ((hlo m dd hi).mp c120) | (rcases z.2.1 with y | y; (first | exact c48 ((hjo m hi.1 hi.2.1).mpr y)); (exact (rp_exa hC hi.1 hi.2.1).mpr y c58)) | (rcases z.2.2 with y | ⟨y1, y2⟩; (exact c81 ((bw_neg (m := m) (d := dd) (by omega) (by omega)).mpr y)); (first | exact y1 c97 | (have y3 := (bw_gap (m := m) (d := dd) (g := f 0) (by omega) (by omega) (by omega)).mpr y2; omega)))))
                · skip
                  refine k_iload (pc1 := 125) dX5_wouldClash_123 rfl rfl ?_
                  refine k_if_eq (a := 1) dX5_wouldClash_125 rfl (tgt := 135) rfl (by decide) (fun c => absurd c (by decide)) (fun _ => ?_)
                  refine k_iload (pc1 := 130) dX5_wouldClash_128 rfl rfl ?_
                  refine k_if_eq (a := 1) dX5_wouldClash_130 rfl (tgt := 135) rfl (by decide) (fun c => absurd c (by decide)) (fun _ => ?_)
                  refine k_iconst (pc1 := 134) dX5_wouldClash_133 rfl ?_
                  exact k_iret dX5_wouldClash_134 rfl rfl (kret (kB_t ⟨m, dd, hi, ⟨ho, hk2, fun z => c120 ((hlo m dd hi).mpr z)⟩, (by first | exact Or.inl ((hjo m hi.1 hi.2.1).mp c48) | exact Or.inr ((rp_exa hC hi.1 hi.2.1).mp c58)), (by first | exact Or.inl ((bw_neg (by omega) (by omega)).mp c81) | exact Or.inr ⟨c97, (bw_gap (by omega) (by omega) (by omega)).mp c106⟩)⟩).symm _)
  exact hloop16 _ 0 rfl (by omega) dn_0
theorem w_bestR {l : Launch} {G : kG} {h : kAH} (hl : l.stackTraces = false) {pl : Nat} {γ : kGh} {A : kAb} {f : Nat → Int} (hC : kRp G h pl γ A f) {qq : Nat} (hqq : qq < 64) {s : Nat} {k t n : Int} (hS : h s = some (.inr (8, [.int (iI k), .int (iI t), .int (iI n)]))) (hk : 0 ≤ k ∧ k < 28) (ht : 0 ≤ t ∧ t < 16) (hn : 1 ≤ n ∧ n ≤ 6) {lo : Option Nat} {wm wd : Int} (hlo : kLv γ f lo wm wd) : kC l G m_X5_bestRoom 5 0 0 [.ref pl, .int (iI ((qq : Nat) : Int)), .ref s, va_rf lo] h (kPq (va_rf (brF γ (smlF f wm wd qq k t n))) h) kNo := by
  obtain ⟨F, hF, hF2⟩ := rp_Ra hC
  have hp6 := kpo_rng qq 6
  refine kC_of hl rfl rfl (by cases lo <;> exact Nat.le_of_ble_eq_true rfl) (L := [some (.ref pl), some (.int (iI ((qq : Nat) : Int))), some (.ref s), some (va_rf lo), none, none, none, none, none])  (by cases lo <;> rfl) ?_
  refine k_iload_n (pc1 := 1) dX5_bestRoom_0 rfl rfl ?_
  refine k_callSP dX5_bestRoom_1 rfl lk_RX5_262 o_J6_bitCount_0f7a4 (w_bitc hl qq (by first | omega | exact kmk_lt _ 6 | exact exM_lt ⟨by omega, by omega⟩ (by first | omega | exact kmk_lt _ 6) | assumption)) (as := [.int (iI ((qq : Nat) : Int))]) rfl rfl rfl (by decide) (by decide) (k8 rfl) ?_
  refine k_istore (pc1 := 6) dX5_bestRoom_4 rfl (by decide) (k_loc (L' := [some (.ref pl), some (.int (iI ((qq : Nat) : Int))), some (.ref s), some (va_rf lo), some (.int (iI (kpo qq 6))), none, none, none, none]) (kset1_q (i := 3) rfl) ?_)
  refine k_null (pc1 := 7) dX5_bestRoom_6 rfl ?_
  refine k_astoreN (pc1 := 9) dX5_bestRoom_7 rfl (by decide) (k_loc (L' := [some (.ref pl), some (.int (iI ((qq : Nat) : Int))), some (.ref s), some (va_rf lo), some (.int (iI (kpo qq 6))), some (.null), none, none, none]) rfl ?_)
  refine k_iconst (pc1 := 10) dX5_bestRoom_9 rfl ?_
  refine k_istore (pc1 := 12) dX5_bestRoom_10 rfl (by decide) (k_loc (L' := [some (.ref pl), some (.int (iI ((qq : Nat) : Int))), some (.ref s), some (va_rf lo), some (.int (iI (kpo qq 6))), some (.null), some (.int (iI 0)), none, none]) rfl ?_)
  have hloop12 : ∀ (zz : Nat) (i : Nat), zz = 4 - i → (i ≤ 4) → kW l G m_X5_bestRoom 5 (kPq (va_rf (brF γ (smlF f wm wd qq k t n))) h) kNo 0 0 12 [some (.ref pl), some (.int (iI ((qq : Nat) : Int))), some (.ref s), some (va_rf lo), some (.int (iI (kpo qq 6))), some (va_rf (brF γ (sml f (fun rm => fitF f wm wd rm qq k t n) i))), some (.int (iI ((i : Nat) : Int))), none, none] [] h := by
    intro zz
    induction zz using Nat.strongRecOn with
    | ind zz ih12 =>
    intro i hr12 hi9
    refine k_iload (pc1 := 14) dX5_bestRoom_12 rfl rfl ?_
    refine k_aload_n (pc1 := 15) dX5_bestRoom_14 rfl rfl ?_
    refine k_get (pc1 := 18) dX5_bestRoom_15 rfl fd_RX5_12 (rp_P hC) (v := .ref (gRa γ)) rfl ?_
    refine k_alenR (pc1 := 19) dX5_bestRoom_18 rfl hF (j := 5) rfl ?_
    refine k_icmp_ge (a := ((i : Nat) : Int)) (b := ((4 : Nat) : Int)) dX5_bestRoom_19 rfl (tgt := 105) rfl (by omega) (by omega) (fun c19 : ((4 : Nat) : Int) ≤ ((i : Nat) : Int) => ?_) (fun c19 : ((i : Nat) : Int) < ((4 : Nat) : Int) => ?_)
    · skip
      refine k_aloadq (pc1 := 107) dX5_bestRoom_105 rfl rfl ?_
      have ei : i = 4 := by omega
      subst ei
      refine k_aret dX5_bestRoom_107 rfl (Or.inl ⟨_, rfl⟩) ?_ ⟨rfl, rfl⟩
      cases (brF γ (sml f (fun rm => fitF f wm wd rm qq k t n) 4)) with
      | none => exact Or.inl rfl
      | some x => exact Or.inr ⟨x, rfl⟩
    · skip
      refine k_aload_n (pc1 := 23) dX5_bestRoom_22 rfl rfl ?_
      refine k_get (pc1 := 26) dX5_bestRoom_23 rfl fd_RX5_12 (rp_P hC) (v := .ref (gRa γ)) rfl ?_
      refine k_iload (pc1 := 28) dX5_bestRoom_26 rfl rfl ?_
      refine k_aald (i := ((i : Nat) : Int)) (pc1 := 29) dX5_bestRoom_28 rfl hF (j := 5) rfl (by omega) (by omega) (by decide) (k_val (v' := .ref (gRm γ ((i : Nat) : Int))) (congrArg va_rf (hF2 ((i : Nat) : Int) (by omega) (by omega))) ?_)
      refine k_astore (pc1 := 31) dX5_bestRoom_29 rfl (by decide) (k_loc (L' := [some (.ref pl), some (.int (iI ((qq : Nat) : Int))), some (.ref s), some (va_rf lo), some (.int (iI (kpo qq 6))), some (va_rf (brF γ (sml f (fun rm => fitF f wm wd rm qq k t n) i))), some (.int (iI ((i : Nat) : Int))), some (.ref (gRm γ ((i : Nat) : Int))), none]) rfl ?_)
      have hsr := sml_r f (fun rm => fitF f wm wd rm qq k t n) i
      have hri := kWf_room hC.2.2 (r := ((i : Nat) : Int)) (by omega) (by omega)
      by_cases hbz : (sml f (fun rm => fitF f wm wd rm qq k t n) i) < 0
      · skip
        refine k_loc (L' := [some (.ref pl), some (.int (iI ((qq : Nat) : Int))), some (.ref s), some (va_rf lo), some (.int (iI (kpo qq 6))), some (.null), some (.int (iI ((i : Nat) : Int))), some (.ref (gRm γ ((i : Nat) : Int))), none]) (by rw [brF, if_pos hbz]; rfl) ?_
        refine k_aloadN (pc1 := 33) dX5_bestRoom_31 rfl rfl ?_
        refine k_ifnullN dX5_bestRoom_33 (tgt := 49) rfl ?_
        refine k_iconst (pc1 := 50) dX5_bestRoom_49 rfl ?_
        refine k_goto dX5_bestRoom_50 (tgt := 54) rfl ?_
        refine k_istore (pc1 := 56) dX5_bestRoom_54 rfl (by decide) (k_loc (L' := [some (.ref pl), some (.int (iI ((qq : Nat) : Int))), some (.ref s), some (va_rf lo), some (.int (iI (kpo qq 6))), some (.null), some (.int (iI ((i : Nat) : Int))), some (.ref (gRm γ ((i : Nat) : Int))), some (.int (iI 1))]) rfl ?_)
        refine k_iload (pc1 := 58) dX5_bestRoom_56 rfl rfl ?_
        refine k_if_eq (a := 1) dX5_bestRoom_58 rfl (tgt := 99) rfl (by decide) (fun c => absurd c (by decide)) (fun _ => ?_)
        refine k_aload (pc1 := 63) dX5_bestRoom_61 rfl rfl ?_
        refine k_get (pc1 := 66) dX5_bestRoom_63 rfl fd_RX5_52 (rp_R hC (r := ((i : Nat) : Int)) (by omega) (by omega)) (v := .int (iI (f (5 + ((i : Nat) : Int)).toNat))) rfl ?_
        refine k_iload (pc1 := 68) dX5_bestRoom_66 rfl rfl ?_
        refine k_icmp_lt (a := (f (5 + ((i : Nat) : Int)).toNat)) (b := (kpo qq 6)) dX5_bestRoom_68 rfl (tgt := 99) rfl (by omega) (by omega) (fun c68 : (f (5 + ((i : Nat) : Int)).toNat) < (kpo qq 6) => ?_) (fun c68 : (kpo qq 6) ≤ (f (5 + ((i : Nat) : Int)).toNat) => ?_)
        · skip
          refine k_iinc (a := ((i : Nat) : Int)) (pc1 := 102) dX5_bestRoom_99 rfl rfl (by decide) (k_loc (L' := [some (.ref pl), some (.int (iI ((qq : Nat) : Int))), some (.ref s), some (va_rf lo), some (.int (iI (kpo qq 6))), some (.null), some (.int (iI (((i : Nat) : Int) + 1))), some (.ref (gRm γ ((i : Nat) : Int))), some (.int (iI 1))]) rfl ?_)
          refine k_goto dX5_bestRoom_102 (tgt := 12) rfl ?_
          refine k_forget 7 (k_loc (L' := [some (.ref pl), some (.int (iI ((qq : Nat) : Int))), some (.ref s), some (va_rf lo), some (.int (iI (kpo qq 6))), some (.null), some (.int (iI (((i : Nat) : Int) + 1))), none, some (.int (iI 1))]) rfl ?_)
          refine k_forget 8 (k_loc (L' := [some (.ref pl), some (.int (iI ((qq : Nat) : Int))), some (.ref s), some (va_rf lo), some (.int (iI (kpo qq 6))), some (.null), some (.int (iI (((i : Nat) : Int) + 1))), none, none]) rfl ?_)
          have e : sml f (fun rm => fitF f wm wd rm qq k t n) (i + 1) = sml f (fun rm => fitF f wm wd rm qq k t n) i := kI_f (fun z => by have z3 := fit_iff.mp z.1; first | exact z3.2.1 c79 | exact z3.2.2 c92 | omega)
          refine k_loc (L' := [some (.ref pl), some (.int (iI ((qq : Nat) : Int))), some (.ref s), some (va_rf lo), some (.int (iI (kpo qq 6))), some (va_rf (brF γ (sml f (fun rm => fitF f wm wd rm qq k t n) (i + 1)))), some (.int (iI (((i : Nat) : Int) + 1))), none, none]) (by rw [e, brF]; first | (rw [if_pos hbz]; rfl) | (rw [if_neg hbz]; rfl)) ?_
          exact ih12 _ (by omega) (i + 1) rfl (by omega)
        · skip
          refine k_aload_n (pc1 := 72) dX5_bestRoom_71 rfl rfl ?_
          refine k_aload (pc1 := 74) dX5_bestRoom_72 rfl rfl ?_
          refine k_aload_n (pc1 := 75) dX5_bestRoom_74 rfl rfl ?_
          refine k_aload_nq (pc1 := 76) dX5_bestRoom_75 rfl rfl ?_
          refine k_callVP dX5_bestRoom_76 rfl lk_RX5_341 o_X5_isTaken (w_isTk hl hC (rm := ((i : Nat) : Int)) ⟨by omega, by omega⟩ hS ⟨by omega, by omega⟩ ⟨by omega, by omega⟩ ⟨by omega, by omega⟩ hlo) (as := [.ref (gRm γ ((i : Nat) : Int)), .ref s, va_rf lo]) (rp_P hC) rfl rfl rfl rfl (by decide) (by decide) (k8 rfl) ?_
          refine k_if_ne (a := kB (tkF f wm wd ((i : Nat) : Int) k t n)) dX5_bestRoom_79 rfl (tgt := 99) rfl (kB_r _) (fun c79 : kB (tkF f wm wd ((i : Nat) : Int) k t n) ≠ 0 => ?_) (fun c79 : kB (tkF f wm wd ((i : Nat) : Int) k t n) = 0 => ?_)
          · replace c79 : (tkF f wm wd ((i : Nat) : Int) k t n) := kB_nz.mp c79
            refine k_iinc (a := ((i : Nat) : Int)) (pc1 := 102) dX5_bestRoom_99 rfl rfl (by decide) (k_loc (L' := [some (.ref pl), some (.int (iI ((qq : Nat) : Int))), some (.ref s), some (va_rf lo), some (.int (iI (kpo qq 6))), some (.null), some (.int (iI (((i : Nat) : Int) + 1))), some (.ref (gRm γ ((i : Nat) : Int))), some (.int (iI 1))]) rfl ?_)
            refine k_goto dX5_bestRoom_102 (tgt := 12) rfl ?_
            refine k_forget 7 (k_loc (L' := [some (.ref pl), some (.int (iI ((qq : Nat) : Int))), some (.ref s), some (va_rf lo), some (.int (iI (kpo qq 6))), some (.null), some (.int (iI (((i : Nat) : Int) + 1))), none, some (.int (iI 1))]) rfl ?_)
            refine k_forget 8 (k_loc (L' := [some (.ref pl), some (.int (iI ((qq : Nat) : Int))), some (.ref s), some (va_rf lo), some (.int (iI (kpo qq 6))), some (.null), some (.int (iI (((i : Nat) : Int) + 1))), none, none]) rfl ?_)
            have e : sml f (fun rm => fitF f wm wd rm qq k t n) (i + 1) = sml f (fun rm => fitF f wm wd rm qq k t n) i := kI_f (fun z => by have z3 := fit_iff.mp z.1; first | exact z3.2.1 c79 | exact z3.2.2 c92 | omega)
            refine k_loc (L' := [some (.ref pl), some (.int (iI ((qq : Nat) : Int))), some (.ref s), some (va_rf lo), some (.int (iI (kpo qq 6))), some (va_rf (brF γ (sml f (fun rm => fitF f wm wd rm qq k t n) (i + 1)))), some (.int (iI (((i : Nat) : Int) + 1))), none, none]) (by rw [e, brF]; first | (rw [if_pos hbz]; rfl) | (rw [if_neg hbz]; rfl)) ?_
            exact ih12 _ (by omega) (i + 1) rfl (by omega)
          · replace c79 : ¬(tkF f wm wd ((i : Nat) : Int) k t n) := kB_z.mp c79
            refine k_aload_n (pc1 := 83) dX5_bestRoom_82 rfl rfl ?_
            refine k_iload_n (pc1 := 84) dX5_bestRoom_83 rfl rfl ?_
            refine k_null (pc1 := 85) dX5_bestRoom_84 rfl ?_
            refine k_aload_n (pc1 := 86) dX5_bestRoom_85 rfl rfl ?_
            refine k_aload (pc1 := 88) dX5_bestRoom_86 rfl rfl ?_
            refine k_aload_nq (pc1 := 89) dX5_bestRoom_88 rfl rfl ?_
            refine k_callVP dX5_bestRoom_89 rfl lk_RX5_331 o_X5_wouldClash (w_wouldC hl hC (qq := qq) (by first | omega | exact kmk_lt _ 6 | exact exM_lt ⟨by omega, by omega⟩ (by first | omega | exact kmk_lt _ 6) | assumption) (jo := none) kJo_none (rm := ((i : Nat) : Int)) ⟨by omega, by omega⟩ hS ⟨by omega, by omega⟩ ⟨by omega, by omega⟩ ⟨by omega, by omega⟩ hlo) (as := [.int (iI ((qq : Nat) : Int)), .null, .ref s, .ref (gRm γ ((i : Nat) : Int)), va_rf lo]) (rp_P hC) rfl rfl rfl rfl (by decide) (by decide) (k8 rfl) ?_
            refine k_if_ne (a := kB (wcF f wm wd (-1) qq ((i : Nat) : Int) k t n)) dX5_bestRoom_92 rfl (tgt := 99) rfl (kB_r _) (fun c92 : kB (wcF f wm wd (-1) qq ((i : Nat) : Int) k t n) ≠ 0 => ?_) (fun c92 : kB (wcF f wm wd (-1) qq ((i : Nat) : Int) k t n) = 0 => ?_)
            · replace c92 : (wcF f wm wd (-1) qq ((i : Nat) : Int) k t n) := kB_nz.mp c92
              refine k_iinc (a := ((i : Nat) : Int)) (pc1 := 102) dX5_bestRoom_99 rfl rfl (by decide) (k_loc (L' := [some (.ref pl), some (.int (iI ((qq : Nat) : Int))), some (.ref s), some (va_rf lo), some (.int (iI (kpo qq 6))), some (.null), some (.int (iI (((i : Nat) : Int) + 1))), some (.ref (gRm γ ((i : Nat) : Int))), some (.int (iI 1))]) rfl ?_)
              refine k_goto dX5_bestRoom_102 (tgt := 12) rfl ?_
              refine k_forget 7 (k_loc (L' := [some (.ref pl), some (.int (iI ((qq : Nat) : Int))), some (.ref s), some (va_rf lo), some (.int (iI (kpo qq 6))), some (.null), some (.int (iI (((i : Nat) : Int) + 1))), none, some (.int (iI 1))]) rfl ?_)
              refine k_forget 8 (k_loc (L' := [some (.ref pl), some (.int (iI ((qq : Nat) : Int))), some (.ref s), some (va_rf lo), some (.int (iI (kpo qq 6))), some (.null), some (.int (iI (((i : Nat) : Int) + 1))), none, none]) rfl ?_)
              have e : sml f (fun rm => fitF f wm wd rm qq k t n) (i + 1) = sml f (fun rm => fitF f wm wd rm qq k t n) i := kI_f (fun z => by have z3 := fit_iff.mp z.1; first | exact z3.2.1 c79 | exact z3.2.2 c92 | omega)
              refine k_loc (L' := [some (.ref pl), some (.int (iI ((qq : Nat) : Int))), some (.ref s), some (va_rf lo), some (.int (iI (kpo qq 6))), some (va_rf (brF γ (sml f (fun rm => fitF f wm wd rm qq k t n) (i + 1)))), some (.int (iI (((i : Nat) : Int) + 1))), none, none]) (by rw [e, brF]; first | (rw [if_pos hbz]; rfl) | (rw [if_neg hbz]; rfl)) ?_
              exact ih12 _ (by omega) (i + 1) rfl (by omega)
            · replace c92 : ¬(wcF f wm wd (-1) qq ((i : Nat) : Int) k t n) := kB_z.mp c92
              refine k_aload (pc1 := 97) dX5_bestRoom_95 rfl rfl ?_
              refine k_astore (pc1 := 99) dX5_bestRoom_97 rfl (by decide) (k_loc (L' := [some (.ref pl), some (.int (iI ((qq : Nat) : Int))), some (.ref s), some (va_rf lo), some (.int (iI (kpo qq 6))), some (.ref (gRm γ ((i : Nat) : Int))), some (.int (iI ((i : Nat) : Int))), some (.ref (gRm γ ((i : Nat) : Int))), some (.int (iI 1))]) rfl ?_)
              refine k_iinc (a := ((i : Nat) : Int)) (pc1 := 102) dX5_bestRoom_99 rfl rfl (by decide) (k_loc (L' := [some (.ref pl), some (.int (iI ((qq : Nat) : Int))), some (.ref s), some (va_rf lo), some (.int (iI (kpo qq 6))), some (.ref (gRm γ ((i : Nat) : Int))), some (.int (iI (((i : Nat) : Int) + 1))), some (.ref (gRm γ ((i : Nat) : Int))), some (.int (iI 1))]) rfl ?_)
              refine k_goto dX5_bestRoom_102 (tgt := 12) rfl ?_
              refine k_forget 7 (k_loc (L' := [some (.ref pl), some (.int (iI ((qq : Nat) : Int))), some (.ref s), some (va_rf lo), some (.int (iI (kpo qq 6))), some (.ref (gRm γ ((i : Nat) : Int))), some (.int (iI (((i : Nat) : Int) + 1))), none, some (.int (iI 1))]) rfl ?_)
              refine k_forget 8 (k_loc (L' := [some (.ref pl), some (.int (iI ((qq : Nat) : Int))), some (.ref s), some (va_rf lo), some (.int (iI (kpo qq 6))), some (.ref (gRm γ ((i : Nat) : Int))), some (.int (iI (((i : Nat) : Int) + 1))), none, none]) rfl ?_)
              have e : sml f (fun rm => fitF f wm wd rm qq k t n) (i + 1) = ((i : Nat) : Int) := kI_t ⟨fit_iff.mpr ⟨by omega, c79, c92⟩, by first | exact Or.inl hbz | exact Or.inr (by omega)⟩
              refine k_loc (L' := [some (.ref pl), some (.int (iI ((qq : Nat) : Int))), some (.ref s), some (va_rf lo), some (.int (iI (kpo qq 6))), some (va_rf (brF γ (sml f (fun rm => fitF f wm wd rm qq k t n) (i + 1)))), some (.int (iI (((i : Nat) : Int) + 1))), none, none]) (by rw [e, brF, if_neg (by omega)]; rfl) ?_
              exact ih12 _ (by omega) (i + 1) rfl (by omega)
      · skip
        have hrj := kWf_room hC.2.2 (r := (sml f (fun rm => fitF f wm wd rm qq k t n) i)) (by omega) (by omega)
        refine k_loc (L' := [some (.ref pl), some (.int (iI ((qq : Nat) : Int))), some (.ref s), some (va_rf lo), some (.int (iI (kpo qq 6))), some (.ref (gRm γ (sml f (fun rm => fitF f wm wd rm qq k t n) i))), some (.int (iI ((i : Nat) : Int))), some (.ref (gRm γ ((i : Nat) : Int))), none]) (by rw [brF, if_neg hbz]; rfl) ?_
        refine k_aload (pc1 := 33) dX5_bestRoom_31 rfl rfl ?_
        refine k_ifnull (pc1 := 36) dX5_bestRoom_33 rfl ?_
        refine k_aload (pc1 := 38) dX5_bestRoom_36 rfl rfl ?_
        refine k_get (pc1 := 41) dX5_bestRoom_38 rfl fd_RX5_52 (rp_R hC (r := ((i : Nat) : Int)) (by omega) (by omega)) (v := .int (iI (f (5 + ((i : Nat) : Int)).toNat))) rfl ?_
        refine k_aload (pc1 := 43) dX5_bestRoom_41 rfl rfl ?_
        refine k_get (pc1 := 46) dX5_bestRoom_43 rfl fd_RX5_52 (rp_R hC (r := (sml f (fun rm => fitF f wm wd rm qq k t n) i)) (by omega) (by omega)) (v := .int (iI (f (5 + (sml f (fun rm => fitF f wm wd rm qq k t n) i)).toNat))) rfl ?_
        refine k_icmp_ge (a := (f (5 + ((i : Nat) : Int)).toNat)) (b := (f (5 + (sml f (fun rm => fitF f wm wd rm qq k t n) i)).toNat)) dX5_bestRoom_46 rfl (tgt := 53) rfl (by omega) (by omega) (fun c46 : (f (5 + (sml f (fun rm => fitF f wm wd rm qq k t n) i)).toNat) ≤ (f (5 + ((i : Nat) : Int)).toNat) => ?_) (fun c46 : (f (5 + ((i : Nat) : Int)).toNat) < (f (5 + (sml f (fun rm => fitF f wm wd rm qq k t n) i)).toNat) => ?_)
        · skip
          refine k_iconst (pc1 := 54) dX5_bestRoom_53 rfl ?_
          refine k_istore (pc1 := 56) dX5_bestRoom_54 rfl (by decide) (k_loc (L' := [some (.ref pl), some (.int (iI ((qq : Nat) : Int))), some (.ref s), some (va_rf lo), some (.int (iI (kpo qq 6))), some (.ref (gRm γ (sml f (fun rm => fitF f wm wd rm qq k t n) i))), some (.int (iI ((i : Nat) : Int))), some (.ref (gRm γ ((i : Nat) : Int))), some (.int (iI 0))]) rfl ?_)
          refine k_iload (pc1 := 58) dX5_bestRoom_56 rfl rfl ?_
          refine k_if_eq (a := 0) dX5_bestRoom_58 rfl (tgt := 99) rfl (by decide) (fun _ => ?_) (fun c => absurd c (by decide))
          refine k_iinc (a := ((i : Nat) : Int)) (pc1 := 102) dX5_bestRoom_99 rfl rfl (by decide) (k_loc (L' := [some (.ref pl), some (.int (iI ((qq : Nat) : Int))), some (.ref s), some (va_rf lo), some (.int (iI (kpo qq 6))), some (.ref (gRm γ (sml f (fun rm => fitF f wm wd rm qq k t n) i))), some (.int (iI (((i : Nat) : Int) + 1))), some (.ref (gRm γ ((i : Nat) : Int))), some (.int (iI 0))]) rfl ?_)
          refine k_goto dX5_bestRoom_102 (tgt := 12) rfl ?_
          refine k_forget 7 (k_loc (L' := [some (.ref pl), some (.int (iI ((qq : Nat) : Int))), some (.ref s), some (va_rf lo), some (.int (iI (kpo qq 6))), some (.ref (gRm γ (sml f (fun rm => fitF f wm wd rm qq k t n) i))), some (.int (iI (((i : Nat) : Int) + 1))), none, some (.int (iI 0))]) rfl ?_)
          refine k_forget 8 (k_loc (L' := [some (.ref pl), some (.int (iI ((qq : Nat) : Int))), some (.ref s), some (va_rf lo), some (.int (iI (kpo qq 6))), some (.ref (gRm γ (sml f (fun rm => fitF f wm wd rm qq k t n) i))), some (.int (iI (((i : Nat) : Int) + 1))), none, none]) rfl ?_)
          have e : sml f (fun rm => fitF f wm wd rm qq k t n) (i + 1) = sml f (fun rm => fitF f wm wd rm qq k t n) i := kI_f (fun z => by have z3 := fit_iff.mp z.1; first | exact z3.2.1 c79 | exact z3.2.2 c92 | omega)
          refine k_loc (L' := [some (.ref pl), some (.int (iI ((qq : Nat) : Int))), some (.ref s), some (va_rf lo), some (.int (iI (kpo qq 6))), some (va_rf (brF γ (sml f (fun rm => fitF f wm wd rm qq k t n) (i + 1)))), some (.int (iI (((i : Nat) : Int) + 1))), none, none]) (by rw [e, brF]; first | (rw [if_pos hbz]; rfl) | (rw [if_neg hbz]; rfl)) ?_
          exact ih12 _ (by omega) (i + 1) rfl (by omega)
        · skip
          refine k_iconst (pc1 := 50) dX5_bestRoom_49 rfl ?_
          refine k_goto dX5_bestRoom_50 (tgt := 54) rfl ?_
          refine k_istore (pc1 := 56) dX5_bestRoom_54 rfl (by decide) (k_loc (L' := [some (.ref pl), some (.int (iI ((qq : Nat) : Int))), some (.ref s), some (va_rf lo), some (.int (iI (kpo qq 6))), some (.ref (gRm γ (sml f (fun rm => fitF f wm wd rm qq k t n) i))), some (.int (iI ((i : Nat) : Int))), some (.ref (gRm γ ((i : Nat) : Int))), some (.int (iI 1))]) rfl ?_)
          refine k_iload (pc1 := 58) dX5_bestRoom_56 rfl rfl ?_
          refine k_if_eq (a := 1) dX5_bestRoom_58 rfl (tgt := 99) rfl (by decide) (fun c => absurd c (by decide)) (fun _ => ?_)
          refine k_aload (pc1 := 63) dX5_bestRoom_61 rfl rfl ?_
          refine k_get (pc1 := 66) dX5_bestRoom_63 rfl fd_RX5_52 (rp_R hC (r := ((i : Nat) : Int)) (by omega) (by omega)) (v := .int (iI (f (5 + ((i : Nat) : Int)).toNat))) rfl ?_
          refine k_iload (pc1 := 68) dX5_bestRoom_66 rfl rfl ?_
          refine k_icmp_lt (a := (f (5 + ((i : Nat) : Int)).toNat)) (b := (kpo qq 6)) dX5_bestRoom_68 rfl (tgt := 99) rfl (by omega) (by omega) (fun c68 : (f (5 + ((i : Nat) : Int)).toNat) < (kpo qq 6) => ?_) (fun c68 : (kpo qq 6) ≤ (f (5 + ((i : Nat) : Int)).toNat) => ?_)
          · skip
            refine k_iinc (a := ((i : Nat) : Int)) (pc1 := 102) dX5_bestRoom_99 rfl rfl (by decide) (k_loc (L' := [some (.ref pl), some (.int (iI ((qq : Nat) : Int))), some (.ref s), some (va_rf lo), some (.int (iI (kpo qq 6))), some (.ref (gRm γ (sml f (fun rm => fitF f wm wd rm qq k t n) i))), some (.int (iI (((i : Nat) : Int) + 1))), some (.ref (gRm γ ((i : Nat) : Int))), some (.int (iI 1))]) rfl ?_)
            refine k_goto dX5_bestRoom_102 (tgt := 12) rfl ?_
            refine k_forget 7 (k_loc (L' := [some (.ref pl), some (.int (iI ((qq : Nat) : Int))), some (.ref s), some (va_rf lo), some (.int (iI (kpo qq 6))), some (.ref (gRm γ (sml f (fun rm => fitF f wm wd rm qq k t n) i))), some (.int (iI (((i : Nat) : Int) + 1))), none, some (.int (iI 1))]) rfl ?_)
            refine k_forget 8 (k_loc (L' := [some (.ref pl), some (.int (iI ((qq : Nat) : Int))), some (.ref s), some (va_rf lo), some (.int (iI (kpo qq 6))), some (.ref (gRm γ (sml f (fun rm => fitF f wm wd rm qq k t n) i))), some (.int (iI (((i : Nat) : Int) + 1))), none, none]) rfl ?_)
            have e : sml f (fun rm => fitF f wm wd rm qq k t n) (i + 1) = sml f (fun rm => fitF f wm wd rm qq k t n) i := kI_f (fun z => by have z3 := fit_iff.mp z.1; first | exact z3.2.1 c79 | exact z3.2.2 c92 | omega)
            refine k_loc (L' := [some (.ref pl), some (.int (iI ((qq : Nat) : Int))), some (.ref s), some (va_rf lo), some (.int (iI (kpo qq 6))), some (va_rf (brF γ (sml f (fun rm => fitF f wm wd rm qq k t n) (i + 1)))), some (.int (iI (((i : Nat) : Int) + 1))), none, none]) (by rw [e, brF]; first | (rw [if_pos hbz]; rfl) | (rw [if_neg hbz]; rfl)) ?_
            exact ih12 _ (by omega) (i + 1) rfl (by omega)
          · skip
            refine k_aload_n (pc1 := 72) dX5_bestRoom_71 rfl rfl ?_
            refine k_aload (pc1 := 74) dX5_bestRoom_72 rfl rfl ?_
            refine k_aload_n (pc1 := 75) dX5_bestRoom_74 rfl rfl ?_
            refine k_aload_nq (pc1 := 76) dX5_bestRoom_75 rfl rfl ?_
            refine k_callVP dX5_bestRoom_76 rfl lk_RX5_341 o_X5_isTaken (w_isTk hl hC (rm := ((i : Nat) : Int)) ⟨by omega, by omega⟩ hS ⟨by omega, by omega⟩ ⟨by omega, by omega⟩ ⟨by omega, by omega⟩ hlo) (as := [.ref (gRm γ ((i : Nat) : Int)), .ref s, va_rf lo]) (rp_P hC) rfl rfl rfl rfl (by decide) (by decide) (k8 rfl) ?_
            refine k_if_ne (a := kB (tkF f wm wd ((i : Nat) : Int) k t n)) dX5_bestRoom_79 rfl (tgt := 99) rfl (kB_r _) (fun c79 : kB (tkF f wm wd ((i : Nat) : Int) k t n) ≠ 0 => ?_) (fun c79 : kB (tkF f wm wd ((i : Nat) : Int) k t n) = 0 => ?_)
            · replace c79 : (tkF f wm wd ((i : Nat) : Int) k t n) := kB_nz.mp c79
              refine k_iinc (a := ((i : Nat) : Int)) (pc1 := 102) dX5_bestRoom_99 rfl rfl (by decide) (k_loc (L' := [some (.ref pl), some (.int (iI ((qq : Nat) : Int))), some (.ref s), some (va_rf lo), some (.int (iI (kpo qq 6))), some (.ref (gRm γ (sml f (fun rm => fitF f wm wd rm qq k t n) i))), some (.int (iI (((i : Nat) : Int) + 1))), some (.ref (gRm γ ((i : Nat) : Int))), some (.int (iI 1))]) rfl ?_)
              refine k_goto dX5_bestRoom_102 (tgt := 12) rfl ?_
              refine k_forget 7 (k_loc (L' := [some (.ref pl), some (.int (iI ((qq : Nat) : Int))), some (.ref s), some (va_rf lo), some (.int (iI (kpo qq 6))), some (.ref (gRm γ (sml f (fun rm => fitF f wm wd rm qq k t n) i))), some (.int (iI (((i : Nat) : Int) + 1))), none, some (.int (iI 1))]) rfl ?_)
              refine k_forget 8 (k_loc (L' := [some (.ref pl), some (.int (iI ((qq : Nat) : Int))), some (.ref s), some (va_rf lo), some (.int (iI (kpo qq 6))), some (.ref (gRm γ (sml f (fun rm => fitF f wm wd rm qq k t n) i))), some (.int (iI (((i : Nat) : Int) + 1))), none, none]) rfl ?_)
              have e : sml f (fun rm => fitF f wm wd rm qq k t n) (i + 1) = sml f (fun rm => fitF f wm wd rm qq k t n) i := kI_f (fun z => by have z3 := fit_iff.mp z.1; first | exact z3.2.1 c79 | exact z3.2.2 c92 | omega)
              refine k_loc (L' := [some (.ref pl), some (.int (iI ((qq : Nat) : Int))), some (.ref s), some (va_rf lo), some (.int (iI (kpo qq 6))), some (va_rf (brF γ (sml f (fun rm => fitF f wm wd rm qq k t n) (i + 1)))), some (.int (iI (((i : Nat) : Int) + 1))), none, none]) (by rw [e, brF]; first | (rw [if_pos hbz]; rfl) | (rw [if_neg hbz]; rfl)) ?_
              exact ih12 _ (by omega) (i + 1) rfl (by omega)
            · replace c79 : ¬(tkF f wm wd ((i : Nat) : Int) k t n) := kB_z.mp c79
              refine k_aload_n (pc1 := 83) dX5_bestRoom_82 rfl rfl ?_
              refine k_iload_n (pc1 := 84) dX5_bestRoom_83 rfl rfl ?_
              refine k_null (pc1 := 85) dX5_bestRoom_84 rfl ?_
              refine k_aload_n (pc1 := 86) dX5_bestRoom_85 rfl rfl ?_
              refine k_aload (pc1 := 88) dX5_bestRoom_86 rfl rfl ?_
              refine k_aload_nq (pc1 := 89) dX5_bestRoom_88 rfl rfl ?_
              refine k_callVP dX5_bestRoom_89 rfl lk_RX5_331 o_X5_wouldClash (w_wouldC hl hC (qq := qq) (by first | omega | exact kmk_lt _ 6 | exact exM_lt ⟨by omega, by omega⟩ (by first | omega | exact kmk_lt _ 6) | assumption) (jo := none) kJo_none (rm := ((i : Nat) : Int)) ⟨by omega, by omega⟩ hS ⟨by omega, by omega⟩ ⟨by omega, by omega⟩ ⟨by omega, by omega⟩ hlo) (as := [.int (iI ((qq : Nat) : Int)), .null, .ref s, .ref (gRm γ ((i : Nat) : Int)), va_rf lo]) (rp_P hC) rfl rfl rfl rfl (by decide) (by decide) (k8 rfl) ?_
              refine k_if_ne (a := kB (wcF f wm wd (-1) qq ((i : Nat) : Int) k t n)) dX5_bestRoom_92 rfl (tgt := 99) rfl (kB_r _) (fun c92 : kB (wcF f wm wd (-1) qq ((i : Nat) : Int) k t n) ≠ 0 => ?_) (fun c92 : kB (wcF f wm wd (-1) qq ((i : Nat) : Int) k t n) = 0 => ?_)
              · replace c92 : (wcF f wm wd (-1) qq ((i : Nat) : Int) k t n) := kB_nz.mp c92
                refine k_iinc (a := ((i : Nat) : Int)) (pc1 := 102) dX5_bestRoom_99 rfl rfl (by decide) (k_loc (L' := [some (.ref pl), some (.int (iI ((qq : Nat) : Int))), some (.ref s), some (va_rf lo), some (.int (iI (kpo qq 6))), some (.ref (gRm γ (sml f (fun rm => fitF f wm wd rm qq k t n) i))), some (.int (iI (((i : Nat) : Int) + 1))), some (.ref (gRm γ ((i : Nat) : Int))), some (.int (iI 1))]) rfl ?_)
                refine k_goto dX5_bestRoom_102 (tgt := 12) rfl ?_
                refine k_forget 7 (k_loc (L' := [some (.ref pl), some (.int (iI ((qq : Nat) : Int))), some (.ref s), some (va_rf lo), some (.int (iI (kpo qq 6))), some (.ref (gRm γ (sml f (fun rm => fitF f wm wd rm qq k t n) i))), some (.int (iI (((i : Nat) : Int) + 1))), none, some (.int (iI 1))]) rfl ?_)
                refine k_forget 8 (k_loc (L' := [some (.ref pl), some (.int (iI ((qq : Nat) : Int))), some (.ref s), some (va_rf lo), some (.int (iI (kpo qq 6))), some (.ref (gRm γ (sml f (fun rm => fitF f wm wd rm qq k t n) i))), some (.int (iI (((i : Nat) : Int) + 1))), none, none]) rfl ?_)
                have e : sml f (fun rm => fitF f wm wd rm qq k t n) (i + 1) = sml f (fun rm => fitF f wm wd rm qq k t n) i := kI_f (fun z => by have z3 := fit_iff.mp z.1; first | exact z3.2.1 c79 | exact z3.2.2 c92 | omega)
                refine k_loc (L' := [some (.ref pl), some (.int (iI ((qq : Nat) : Int))), some (.ref s), some (va_rf lo), some (.int (iI (kpo qq 6))), some (va_rf (brF γ (sml f (fun rm => fitF f wm wd rm qq k t n) (i + 1)))), some (.int (iI (((i : Nat) : Int) + 1))), none, none]) (by rw [e, brF]; first | (rw [if_pos hbz]; rfl) | (rw [if_neg hbz]; rfl)) ?_
                exact ih12 _ (by omega) (i + 1) rfl (by omega)
              · replace c92 : ¬(wcF f wm wd (-1) qq ((i : Nat) : Int) k t n) := kB_z.mp c92
                refine k_aload (pc1 := 97) dX5_bestRoom_95 rfl rfl ?_
                refine k_astore (pc1 := 99) dX5_bestRoom_97 rfl (by decide) (k_loc (L' := [some (.ref pl), some (.int (iI ((qq : Nat) : Int))), some (.ref s), some (va_rf lo), some (.int (iI (kpo qq 6))), some (.ref (gRm γ ((i : Nat) : Int))), some (.int (iI ((i : Nat) : Int))), some (.ref (gRm γ ((i : Nat) : Int))), some (.int (iI 1))]) rfl ?_)
                refine k_iinc (a := ((i : Nat) : Int)) (pc1 := 102) dX5_bestRoom_99 rfl rfl (by decide) (k_loc (L' := [some (.ref pl), some (.int (iI ((qq : Nat) : Int))), some (.ref s), some (va_rf lo), some (.int (iI (kpo qq 6))), some (.ref (gRm γ ((i : Nat) : Int))), some (.int (iI (((i : Nat) : Int) + 1))), some (.ref (gRm γ ((i : Nat) : Int))), some (.int (iI 1))]) rfl ?_)
                refine k_goto dX5_bestRoom_102 (tgt := 12) rfl ?_
                refine k_forget 7 (k_loc (L' := [some (.ref pl), some (.int (iI ((qq : Nat) : Int))), some (.ref s), some (va_rf lo), some (.int (iI (kpo qq 6))), some (.ref (gRm γ ((i : Nat) : Int))), some (.int (iI (((i : Nat) : Int) + 1))), none, some (.int (iI 1))]) rfl ?_)
                refine k_forget 8 (k_loc (L' := [some (.ref pl), some (.int (iI ((qq : Nat) : Int))), some (.ref s), some (va_rf lo), some (.int (iI (kpo qq 6))), some (.ref (gRm γ ((i : Nat) : Int))), some (.int (iI (((i : Nat) : Int) + 1))), none, none]) rfl ?_)
                have e : sml f (fun rm => fitF f wm wd rm qq k t n) (i + 1) = ((i : Nat) : Int) := kI_t ⟨fit_iff.mpr ⟨by omega, c79, c92⟩, by first | exact Or.inl hbz | exact Or.inr (by omega)⟩
                refine k_loc (L' := [some (.ref pl), some (.int (iI ((qq : Nat) : Int))), some (.ref s), some (va_rf lo), some (.int (iI (kpo qq 6))), some (va_rf (brF γ (sml f (fun rm => fitF f wm wd rm qq k t n) (i + 1)))), some (.int (iI (((i : Nat) : Int) + 1))), none, none]) (by rw [e, brF, if_neg (by omega)]; rfl) ?_
                exact ih12 _ (by omega) (i + 1) rfl (by omega)
  exact hloop12 _ 0 rfl (by omega)
