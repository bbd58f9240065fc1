/-! ===== the class: extend, walked ===== -/
section KEX
variable {G : kG} {h : kAH}
-- the new slots, listed
def kSl (h : kAH) (t ln : Int) (K : Nat → Int) (h2 : kAH) (ss : List Nat) : Prop := ss.Nodup ∧ ∀ (i x : Nat), ss[i]? = some x → h x = none ∧ h2 x = some (.inr (8, [.int (iI (K i)), .int (iI t), .int (iI ln)]))
theorem sl_0 {t ln : Int} {K : Nat → Int} {h2 : kAH} : kSl h t ln K h2 [] := ⟨List.nodup_nil, fun j x e => by cases e⟩
theorem sl_step {h2 h4 h5 : kAH} {p arp cp q : Nat} {K : Nat → Int} {t ln : Int} {qs : List Nat} (hX2 : kXt h h2) (hp : h p = none) (hP : kLs G h2 p arp cp qs) (harp : arp = G.2.2.2 ∨ h arp = none) (hed : h G.2.2.2 = none) (hed4 : h4 G.2.2.2 = none) (hpl : kSl h t ln K h2 qs)
    (hq : h2 q = none) (hv2 : h4 q = some (.inr (8, [.int (iI (K qs.length)), .int (iI t), .int (iI ln)]))) (hv3 : ∀ b, b ≠ q → h4 b = h2 b) (hx : kLx G h4 p arp (qs ++ [q]) h5) :
    kXt h h5 ∧ (∃ arp' cp' : Nat, kLs G h5 p arp' cp' (qs ++ [q]) ∧ (arp' = G.2.2.2 ∨ h arp' = none)) ∧ kSl h t ln K h5 (qs ++ [q]) := by
  obtain ⟨ar', c', hS', hne, hfr⟩ := hx
  have hqn : h q = none := kXt_no hX2 hq
  obtain ⟨vp, hpc⟩ : ∃ vs : List Value, h2 p = some (.inr (3, vs)) := by
    obtain ⟨⟨mc, y⟩, -⟩ := hP
    exact ⟨_, y⟩
  have harn : h arp = none := by
    rcases harp with y | y
    · rw [y]; exact hed
    · exact y
  have K4 : ∀ (b : Nat) (e : va_E), h b = some e → h4 b = some e := fun b e z => (hv3 b (kne_new z hqn)).trans (hX2 b e z)
  have K : kXt h h5 := fun b e z => (hfr b (fun y => by rw [y, hp] at z; cases z) (fun y => by rw [y, harn] at z; cases z) (by rw [K4 b e z]; exact fun y => by cases y)).trans (K4 b e z)
  have har' : ar' = G.2.2.2 ∨ h ar' = none := by
    rcases hne with y | y
    · rw [y]; exact harp
    · right
      cases c : h ar' with
      | none => rfl
      | some e => rw [K4 ar' e c] at y; cases y
  have hqp : p ≠ q := fun y => by rw [← y, hpc] at hq; cases hq
  have h4p : h4 p = some (.inr (3, vp)) := (hv3 p hqp).trans hpc
  have kd : ∀ (x : Nat) (vs : List Value), h4 x = some (.inr (8, vs)) → h5 x = some (.inr (8, vs)) := fun x vs z => by
    refine (hfr x (fun y => ?_) (fun y => ?_) (by rw [z]; exact fun y => by cases y)).trans z
    · rw [y, h4p] at z
      cases z
    · obtain ⟨-, y2⟩ := hP
      rcases y2 with ⟨y2, -⟩ | ⟨-, -, F, g3, -⟩
      · rw [y, y2, hed4] at z
        cases z
      · have hc : arp ≠ q := fun c => by rw [c, hq] at g3; cases g3
        rw [y, hv3 arp hc, g3] at z
        cases z
  have hnew : q ∉ qs := fun y => by
    obtain ⟨j, ej⟩ := List.getElem?_of_mem y
    obtain ⟨-, z⟩ := hpl.2 j q ej
    rw [hq] at z; cases z
  refine ⟨K, ⟨ar', c', hS', har'⟩, ?_, fun j x e => ?_⟩
  · rw [List.nodup_append]
    refine ⟨hpl.1, List.nodup_cons.mpr ⟨(fun y => nomatch y), List.nodup_nil⟩, fun a ha b hb => ?_⟩
    rw [List.mem_singleton] at hb
    rw [hb]
    exact fun y => hnew (y ▸ ha)
  · by_cases cj : j < qs.length
    · rw [List.getElem?_append_left cj] at e
      obtain ⟨z1, z3⟩ := hpl.2 j x e
      exact ⟨z1, kd x _ ((hv3 x (fun y => by rw [y, hq] at z3; cases z3)).trans z3)⟩
    · have hj : j = qs.length := by
        have := (List.getElem?_eq_some_iff.mp e).1
        rw [List.length_append, List.length_singleton] at this
        omega
      subst hj
      rw [List.getElem?_append_right (Nat.le_refl _), Nat.sub_self, List.getElem?_cons_zero] at e
      have e2 := Option.some.inj e
      subst e2
      exact ⟨hqn, kd _ _ hv2⟩
end KEX
theorem w_X5_extend {l : Launch} {G : kG} {h : kAH} (hl : l.stackTraces = false) {pl : Nat} {γ : kGh} {A : kAb} {f : Nat → Int} (hC : kRp G h pl γ A f) {n k e : Int} (rn : -2147483648 ≤ n ∧ n < 2147483648) (rk : -2147483648 ≤ k ∧ k < 2147483648) (re : -2147483648 ≤ e ∧ e < 2147483648) : kC l G m_X5_extend 10 38 4700 [.ref pl, .int (iI n), .int (iI k), .int (iI e)] h (kOy G pl γ h (Textend f n k e)) (kOn G pl γ h (Textend f n k e) ["", "java/util/NoSuchElementException", "java/lang/IllegalArgumentException", "java/lang/IllegalStateException", "java/lang/UnsupportedOperationException"]) := by
  have h8 := kWf_cnt hC.2.2
  refine kC_of hl rfl rfl (Nat.le_of_ble_eq_true rfl) (L := [some (.ref pl), some (.int (iI n)), some (.int (iI k)), some (.int (iI e)), none, none, none, none]) rfl ?_
  refine k_aload_n (pc1 := 1) dX5_extend_0 rfl rfl ?_
  refine k_iload_n (pc1 := 2) dX5_extend_1 rfl rfl ?_
  by_cases hn2 : atF f n < 0
  · skip
    refine k_callV dX5_extend_2 rfl lk_RX5_97 o_X5_meetingWith (as := [.int (iI n)]) rfl rfl (rp_P hC) rfl rfl (w_mwN hl hC (by omega) hn2) (by decide) (by decide) (by decide) (by decide) (k8 rfl) (fun v h9 z => z.elim) (fun E h9 z => kx_out rfl ?_)
    obtain ⟨hv1, hv2⟩ := z
    subst hv1
    rw [hv2]
    exact (kOn_mk (c := 1) (v := 0) (f' := f) (by unfold Textend; first | exact kI_t (by omega) | (rw [kI_f (by omega)]; first | exact kI_f (by omega) | (rw [kI_t (by omega)]; first | exact kI_t (by omega) | (rw [kI_f (by omega)]; first | exact kI_t (by omega) | (rw [kI_f (by omega)]; first | exact kI_t (by omega) | (rw [kI_f (by omega)]; first | exact kI_t (by omega) | exact kI_f (by omega))))))) (by decide) rfl (kSt_rf hC))
  · skip
    refine k_callVP dX5_extend_2 rfl lk_RX5_97 o_X5_meetingWith (w_mwY hl hC (by omega) hn2) (as := [.int (iI n)]) (rp_P hC) rfl rfl rfl rfl (by decide) (by decide) (k8 rfl) ?_
    have h8 := kWf_cnt hC.2.2
    have hat := atF_r (f := f) (n := n) h8.1
    have hmm := kWf_m hC.2.2 (m := (atF f n)) (by omega) (by omega)
    have hmx := rp_Mx hC (m := (atF f n)) (by omega) (by omega)
    obtain ⟨arE, cE, hMd⟩ := rp_Md hC (m := (atF f n)) (by omega) (by omega)
    obtain ⟨mcE, hMe⟩ := hMd.1
    refine k_astore (pc1 := 7) dX5_extend_5 rfl (by decide) (k_loc (L' := [some (.ref pl), some (.int (iI n)), some (.int (iI k)), some (.int (iI e)), some (.ref (gMt γ (oF f (atF f n) 0))), none, none, none]) rfl ?_)
    refine k_iload_n (pc1 := 8) dX5_extend_7 rfl rfl ?_
    refine k_iconst (pc1 := 9) dX5_extend_8 rfl ?_
    refine k_bipush 14 (pc1 := 11) dX5_extend_9 rfl (by decide) ?_
    by_cases hq11 : (1 : Int) ≤ k ∧ k ≤ 14
    · skip
      refine k_callS dX5_extend_11 rfl rfl lk_RX5_49 o_X5_requireWithin (as := [.int (iI k), .int (iI 1), .int (iI 14)]) rfl rfl (w_rwY hl (by omega) (by decide) (by decide) hq11) (by decide) (by decide) (by decide) (by decide) (k8 rfl) (fun v h9 hv => ?_) (fun E h9 z => z.elim)
      obtain ⟨hv1, hv2⟩ := hv
      subst hv1
      rw [hv2]
      refine k_st (st' := []) rfl ?_
      refine k_iload_n (pc1 := 15) dX5_extend_14 rfl rfl ?_
      refine k_iconst (pc1 := 16) dX5_extend_15 rfl ?_
      refine k_iconst (pc1 := 17) dX5_extend_16 rfl ?_
      by_cases hq17 : (1 : Int) ≤ e ∧ e ≤ 5
      · skip
        refine k_callS dX5_extend_17 rfl rfl lk_RX5_49 o_X5_requireWithin (as := [.int (iI e), .int (iI 1), .int (iI 5)]) rfl rfl (w_rwY hl (by omega) (by decide) (by decide) hq17) (by decide) (by decide) (by decide) (by decide) (k8 rfl) (fun v h9 hv => ?_) (fun E h9 z => z.elim)
        obtain ⟨hv1, hv2⟩ := hv
        subst hv1
        rw [hv2]
        refine k_st (st' := []) rfl ?_
        refine k_aload (pc1 := 22) dX5_extend_20 rfl rfl ?_
        refine k_aload (pc1 := 24) dX5_extend_22 rfl rfl ?_
        refine k_get (pc1 := 27) dX5_extend_24 rfl fd_RX5_101 (rp_M hC (m := (atF f n)) (by omega) (by omega)) (v := .ref (gMd γ (oF f (atF f n) 0))) rfl ?_
        refine k_callVP dX5_extend_27 rfl lk_RX5_65 o_Jx4a65c_size_8abf5 (w_lsz hl hMd) (as := []) hMe rfl rfl rfl rfl (by decide) (by decide) (k8 rfl) ?_
        refine k_val (v' := .int (iI (oF f (atF f n) 3))) (congrArg (fun z : Int => Value.int (iI z)) (by rw [List.length_map, List.length_range]; omega)) ?_
        refine k_iconst (pc1 := 31) dX5_extend_30 rfl ?_
        refine k_isub (a := (oF f (atF f n) 3)) (b := 1) (pc1 := 32) dX5_extend_31 rfl ?_
        refine k_callSP dX5_extend_32 rfl lk_RX5_104 o_X5_dateWith (w_dwY hl hC (m := (atF f n)) (by omega) (by omega) (x := ((oF f (atF f n) 3) - 1)) ⟨by omega, by omega⟩) (as := [.ref (gMt γ (oF f (atF f n) 0)), .int (iI ((oF f (atF f n) 3) - 1))]) rfl rfl rfl (by decide) (by decide) (k8 rfl) ?_
        have hi : inP f (atF f n) ((oF f (atF f n) 3) - 1) := ⟨by omega, by omega, by omega, by omega⟩
        have hmd := kWf_d hC.2.2 hi.1 hi.2.1 hi.2.2.1 hi.2.2.2
        refine k_get (pc1 := 38) dX5_extend_35 rfl fd_RX5_108 (rp_D hC hi) (v := .ref (gSt γ (oF f (atF f n) 0) ((oF f (atF f n) 3) - 1))) rfl ?_
        refine k_astore (pc1 := 40) dX5_extend_38 rfl (by decide) (k_loc (L' := [some (.ref pl), some (.int (iI n)), some (.int (iI k)), some (.int (iI e)), some (.ref (gMt γ (oF f (atF f n) 0))), some (.ref (gSt γ (oF f (atF f n) 0) ((oF f (atF f n) 3) - 1))), none, none]) rfl ?_)
        refine k_aload (pc1 := 42) dX5_extend_40 rfl rfl ?_
        refine k_get (pc1 := 45) dX5_extend_42 rfl fd_RX5_114 (rp_S hC hi) (v := .int (iI (dF f (atF f n) ((oF f (atF f n) 3) - 1) 0))) rfl ?_
        refine k_iload_n (pc1 := 46) dX5_extend_45 rfl rfl ?_
        refine k_iload_n (pc1 := 47) dX5_extend_46 rfl rfl ?_
        refine k_imul (a := k) (b := e) (pc1 := 48) dX5_extend_47 rfl ?_
        have hke : k * e ≤ 14 * e := Int.mul_le_mul_of_nonneg_right (by omega) (by omega)
        have hke0 : 0 ≤ k * e := Int.mul_nonneg (by omega) (by omega)
        refine k_iadd (a := (dF f (atF f n) ((oF f (atF f n) 3) - 1) 0)) (b := (k * e)) (pc1 := 49) dX5_extend_48 rfl ?_
        by_cases hq49 : 0 ≤ ((dF f (atF f n) ((oF f (atF f n) 3) - 1) 0) + (k * e)) ∧ ((dF f (atF f n) ((oF f (atF f n) 3) - 1) 0) + (k * e)) ≤ 27
        · skip
          refine k_callS dX5_extend_49 rfl rfl lk_RX5_117 o_X5_requireDay (as := [.int (iI ((dF f (atF f n) ((oF f (atF f n) 3) - 1) 0) + (k * e)))]) rfl rfl (w_rdY hl (by omega) hq49) (by decide) (by decide) (by decide) (by decide) (k8 rfl) (fun v h9 hv => ?_) (fun E h9 z => z.elim)
          obtain ⟨hv1, hv2⟩ := hv
          subst hv1
          rw [hv2]
          refine k_st (st' := []) rfl ?_
          refine k_aload (pc1 := 54) dX5_extend_52 rfl rfl ?_
          refine k_get (pc1 := 57) dX5_extend_54 rfl fd_RX5_101 (rp_M hC hi.1 hi.2.1) (v := .ref (gMd γ (oF f (atF f n) 0))) rfl ?_
          refine k_callVP dX5_extend_57 rfl lk_RX5_65 o_Jx4a65c_size_8abf5 (w_lsz hl hMd) (as := []) hMe rfl rfl rfl rfl (by decide) (by decide) (k8 rfl) ?_
          refine k_val (v' := .int (iI (oF f (atF f n) 3))) (congrArg (fun z : Int => Value.int (iI z)) (by rw [List.length_map, List.length_range]; omega)) ?_
          refine k_iload_n (pc1 := 61) dX5_extend_60 rfl rfl ?_
          refine k_iadd (a := (oF f (atF f n) 3)) (b := e) (pc1 := 62) dX5_extend_61 rfl ?_
          refine k_bipush 6 (pc1 := 64) dX5_extend_62 rfl (by decide) ?_
          refine k_icmp_le (a := ((oF f (atF f n) 3) + e)) (b := 6) dX5_extend_64 rfl (tgt := 77) rfl (by omega) (by decide) (fun c64 : ((oF f (atF f n) 3) + e) ≤ 6 => ?_) (fun c64 : 6 < ((oF f (atF f n) 3) + e) => ?_)
          · skip
            refine k_new (pc1 := 80) dX5_extend_77 rfl nw_RX5_25 (by omega) (by omega) (fun sl hsl => ?_)
            refine k_dup (pc1 := 81) dX5_extend_80 rfl rfl ?_
            refine k_callI dX5_extend_81 rfl lk_RX5_27 o_Jx4a65c_init_da8c8 (as := []) rfl rfl (w_lnew hl (kup_same _ _ _)) (fun E h9 z => z.elim) (by decide) (by decide) (Nat.zero_le _) (Nat.zero_le _) (k8 rfl) (fun v h1 hv => ?_)
            obtain ⟨hv1, hL1, hv3⟩ := hv
            subst hv1
            refine k_st (st' := [.ref sl]) rfl ?_
            have hf1 : ∀ b, b ≠ sl → h1 b = h b := fun b hb => (hv3 b hb).trans (kup_ne hb)
            have hX1 : kXt h h1 := fun b e z => (hf1 b (kne_new z hsl)).trans z
            clear hv3
            have hC0 := hC
            have hS0 := rp_S hC hi
            refine k_ged (fun hed1 => ?_)
            have hed0 : h G.2.2.2 = none := kXt_no hX1 hed1
            refine k_astore (pc1 := 86) dX5_extend_84 rfl (by decide) (k_loc (L' := [some (.ref pl), some (.int (iI n)), some (.int (iI k)), some (.int (iI e)), some (.ref (gMt γ (oF f (atF f n) 0))), some (.ref (gSt γ (oF f (atF f n) 0) ((oF f (atF f n) 3) - 1))), some (.ref sl), none]) rfl ?_)
            refine k_iconst (pc1 := 87) dX5_extend_86 rfl ?_
            refine k_istore (pc1 := 89) dX5_extend_87 rfl (by decide) (k_loc (L' := [some (.ref pl), some (.int (iI n)), some (.int (iI k)), some (.int (iI e)), some (.ref (gMt γ (oF f (atF f n) 0))), some (.ref (gSt γ (oF f (atF f n) 0) ((oF f (atF f n) 3) - 1))), some (.ref sl), some (.int (iI 1))]) rfl ?_)
            have hloop89 : ∀ (zz : Nat) (i : Nat) (h5 : kAH) (ar5 c5 : Nat) (ss : List Nat), zz = e.toNat - i → (((i : Nat) : Int) ≤ e) → (kXt h h5) → (kLs G h5 sl ar5 c5 ss) → (ss.length = i) → (ar5 = G.2.2.2 ∨ h ar5 = none) → (kSl h (dF f (atF f n) (oF f (atF f n) 3 - 1) 1) (oF f (atF f n) 2) (fun i : Nat => dF f (atF f n) (oF f (atF f n) 3 - 1) 0 + k * ((i : Int) + 1)) h5 ss) → kW l G m_X5_extend 10 (kOy G pl γ h (Textend f n k e)) (kOn G pl γ h (Textend f n k e) ["", "java/util/NoSuchElementException", "java/lang/IllegalArgumentException", "java/lang/IllegalStateException", "java/lang/UnsupportedOperationException"]) (2 * (5 - i) + 26) (203 * (5 - i) + 3640) 89 [some (.ref pl), some (.int (iI n)), some (.int (iI k)), some (.int (iI e)), some (.ref (gMt γ (oF f (atF f n) 0))), some (.ref (gSt γ (oF f (atF f n) 0) ((oF f (atF f n) 3) - 1))), some (.ref sl), some (.int (iI (((i : Nat) : Int) + 1)))] [] h5 := by
              intro zz
              induction zz using Nat.strongRecOn with
              | ind zz ih89 =>
              intro i h5 ar5 c5 ss hr89 hi9 hX5 hL5 hsi har5 hsl5
              have hS5 := hX5 _ _ hS0
              refine k_iload (pc1 := 91) dX5_extend_89 rfl rfl ?_
              refine k_iload_n (pc1 := 92) dX5_extend_91 rfl rfl ?_
              refine k_icmp_gt (a := (((i : Nat) : Int) + 1)) (b := e) dX5_extend_92 rfl (tgt := 134) rfl (by omega) (by omega) (fun c92 : e < (((i : Nat) : Int) + 1) => ?_) (fun c92 : (((i : Nat) : Int) + 1) ≤ e => ?_)
              · skip
                refine k_aload_n (pc1 := 135) dX5_extend_134 rfl rfl ?_
                refine k_aload (pc1 := 137) dX5_extend_135 rfl rfl ?_
                refine k_aload (pc1 := 139) dX5_extend_137 rfl rfl ?_
                have hC5 := kRp_xt hX5 hC0
                have tg : ∀ b : Nat, h b = none → gOw γ b = (0, 0) := hC0.1.2.2.2.2.2.2.2.2
                obtain ⟨hlM, hah, -, -, -, hmn⟩ := hC0.2.1.2.2.2.1 (atF f n) (by omega) (by omega)
                have hse : ss.length = e.toNat := by omega
                have hee : ((e.toNat : Nat) : Int) = e := Int.toNat_of_nonneg (by omega)
                have hkj : ∀ i : Nat, i < ss.length → 0 ≤ (fun i : Nat => dF f (atF f n) (oF f (atF f n) 3 - 1) 0 + k * ((i : Int) + 1)) i ∧ (fun i : Nat => dF f (atF f n) (oF f (atF f n) 3 - 1) 0 + k * ((i : Int) + 1)) i < 28 := fun i hi => by
                  have y1 : k * ((i : Int) + 1) ≤ k * e := Int.mul_le_mul_of_nonneg_left (by omega) (by omega)
                  have y2 : 0 ≤ k * ((i : Int) + 1) := Int.mul_nonneg (by omega) (by omega)
                  show 0 ≤ (dF f (atF f n) (oF f (atF f n) 3 - 1) 0) + k * ((i : Int) + 1) ∧ (dF f (atF f n) (oF f (atF f n) 3 - 1) 0) + k * ((i : Int) + 1) < 28
                  omega
                have eex : exM (aHs A (oF f (atF f n) 0)) (aAk A (oF f (atF f n) 0)) (aNo A (oF f (atF f n) 0)) = ppF f (atF f n) := by rw [hah]; exact rp_ex hC0 (by omega) (by omega)
                have hcon := w_planD hl hC5 (n := (oF f (atF f n) 0)) hlM (by rw [hah]; omega) hmx.1 hmx.2.1 hmx.2.2.1 (ss := ss) hL5 (by omega) (t := (dF f (atF f n) (oF f (atF f n) 3 - 1) 1)) (ln := (oF f (atF f n) 2)) ⟨by omega, by omega⟩ ⟨by omega, by omega⟩ (K := (fun i : Nat => dF f (atF f n) (oF f (atF f n) 3 - 1) 0 + k * ((i : Int) + 1))) hkj (fun i x ex => ⟨(hsl5.2 i x ex).2, tg x (hsl5.2 i x ex).1⟩) hsl5.1
                refine k_callV dX5_extend_139 rfl lk_RX5_90 o_X5_planDates (as := [.ref (gMt γ (oF f (atF f n) 0)), .ref sl]) rfl rfl hC5.1.1.1 rfl rfl hcon (by decide) (by decide) (by omega) (by omega) (k8 rfl) (fun v h6 hv => ?_) (fun E h9 z => kx_out rfl ?_)
                rotate_left
                · skip
                  obtain ⟨hv1, f9, hcase, A9, hC9, hfr9⟩ := z
                  subst hv1
                  have hst : kSt G pl γ h h9 f9 := ⟨γ, A9, hC9, fun b e g1 g2 => ⟨hfr9 b e (hX5 b e g1) (fun y => by rw [y, hC0.1.1.2] at g2; cases g2), g2⟩⟩
                  rcases hcase with ⟨j, hj, hb9, hbj, ef⟩ | ⟨hbn, j, hj, hs9, hsj, ef⟩
                  · skip
                    rw [eex] at hb9 hbj ef
                    have ek : exb f (atF f n) k e.toNat = (j : Int) := kls_at (by omega) hb9 hbj
                    have ef2 : f9 = rfF f 1 (exB f (atF f n) k (exb f (atF f n) k e.toNat + 1)) := by rw [ek]; exact ef
                    exact kOn_mk (c := 4) (v := 0) (f' := f9) (by rw [ef2]; unfold Textend; first | exact kI_t (by omega) | (rw [kI_f (by omega)]; first | exact kI_f (by omega) | (rw [kI_t (by omega)]; first | exact kI_t (by omega) | (rw [kI_f (by omega)]; first | exact kI_t (by omega) | (rw [kI_f (by omega)]; first | exact kI_t (by omega) | (rw [kI_f (by omega)]; first | exact kI_t (by omega) | exact kI_f (by omega))))))) (by decide) rfl hst
                  · skip
                    rw [eex] at hbn hs9 hsj
                    have eb : exb f (atF f n) k e.toNat = -1 := kls_none (fun i hi => hbn i (by omega))
                    have ek : exs f (atF f n) k e.toNat = (j : Int) := kls_at (by omega) hs9 (fun i hi y => by have := hsj i hi; exact absurd y (by unfold exS; omega))
                    have ef2 : f9 = rfF f 2 (oF f (atF f n) 3 - 1 + (exs f (atF f n) k e.toNat + 1)) := by rw [ek, ef]; congr 1; omega
                    exact kOn_mk (c := 4) (v := 0) (f' := f9) (by rw [ef2]; unfold Textend; first | exact kI_t (by omega) | (rw [kI_f (by omega)]; first | exact kI_f (by omega) | (rw [kI_t (by omega)]; first | exact kI_t (by omega) | (rw [kI_f (by omega)]; first | exact kI_t (by omega) | (rw [kI_f (by omega)]; first | exact kI_t (by omega) | (rw [kI_f (by omega)]; first | exact kI_t (by omega) | exact kI_f (by omega))))))) (by decide) rfl hst
                · skip
                  obtain ⟨hv1, hbn, hsn, dg, sg, ow3, dx, hR6, hd6, hu6⟩ := hv
                  subst hv1
                  refine k_st (st' := []) rfl ?_
                  rw [eex] at hbn hsn
                  have eb : exb f (atF f n) k e.toNat = -1 := kls_none (fun i hi => hbn i (by omega))
                  have es : exs f (atF f n) k e.toNat = -1 := kls_none (fun i hi y => by have := hsn i (by omega); exact absurd y (by unfold exS; omega))
                  have hM6 := (hR6.2.2.2.2.2.2.1 (oF f (atF f n) 0) hlM).2.1.1
                  obtain ⟨-, arL, cL, hLL, -⟩ := (hR6.2.2.2.2.2.2.1 (oF f (atF f n) 0) hlM).2.2
                  obtain ⟨mcL, hLa⟩ := hLL.1
                  refine k_aload (pc1 := 144) dX5_extend_142 rfl rfl ?_
                  refine k_get (pc1 := 147) dX5_extend_144 rfl fd_RX5_101 hM6 (v := .ref (gMd γ (oF f (atF f n) 0))) rfl ?_
                  refine k_callVP dX5_extend_147 rfl lk_RX5_65 o_Jx4a65c_size_8abf5 (w_lsz hl hLL) (as := []) hLa rfl rfl rfl rfl (by decide) (by decide) (k8 rfl) ?_
                  refine k_val (v' := .int (iI (oF f (atF f n) 3 + e))) (congrArg (fun z : Int => Value.int (iI z)) (by rw [List.length_map, List.length_range, show aMn (xMx (xDD A (kAdt A (oF f (atF f n) 0) (aMn A (oF f (atF f n) 0)) ss.length (fun i : Nat => dF f (atF f n) (oF f (atF f n) 3 - 1) 0 + k * ((i : Int) + 1)) (fun j : Nat => smlF f (-1) (-1) (exM (aHs A (oF f (atF f n) 0)) (aAk A (oF f (atF f n) 0)) (aNo A (oF f (atF f n) 0))) ((fun i : Nat => dF f (atF f n) (oF f (atF f n) 3 - 1) 0 + k * ((i : Int) + 1)) j) (dF f (atF f n) (oF f (atF f n) 3 - 1) 1) (oF f (atF f n) 2)) (dF f (atF f n) (oF f (atF f n) 3 - 1) 1) (oF f (atF f n) 2)) (aDx A)) (oF f (atF f n) 0) (aMn A (oF f (atF f n) 0) + ss.length) dx) (oF f (atF f n) 0) = aMn A (oF f (atF f n) 0) + ss.length from if_pos rfl]; omega)) ?_
                  have hw : kWf (lyF (exF2 f (atF f n) k e.toNat) (atF f n) 3 (oF f (atF f n) 3 - 1 + 1 + e)) := by
                    have z := wf_extend hC0.2.2 n k e
                    rw [Textend, kI_f (by omega), kI_t (by omega), kI_f (by omega), kI_f (by omega), kI_f (by omega), kI_f (by omega)] at z
                    exact z
                  have hL : kRl (xMx (xDD A (kAdt A (oF f (atF f n) 0) (aMn A (oF f (atF f n) 0)) ss.length (fun i : Nat => dF f (atF f n) (oF f (atF f n) 3 - 1) 0 + k * ((i : Int) + 1)) (fun j : Nat => smlF f (-1) (-1) (exM (aHs A (oF f (atF f n) 0)) (aAk A (oF f (atF f n) 0)) (aNo A (oF f (atF f n) 0))) ((fun i : Nat => dF f (atF f n) (oF f (atF f n) 3 - 1) 0 + k * ((i : Int) + 1)) j) (dF f (atF f n) (oF f (atF f n) 3 - 1) 1) (oF f (atF f n) 2)) (dF f (atF f n) (oF f (atF f n) 3 - 1) 1) (oF f (atF f n) 2)) (aDx A)) (oF f (atF f n) 0) (aMn A (oF f (atF f n) 0) + ss.length) dx) (lyF (exF2 f (atF f n) k e.toNat) (atF f n) 3 (oF f (atF f n) 3 - 1 + 1 + e)) := by
                    have y := rl_ext (k9 := k) (e := e.toNat) hC0 (m := (atF f n)) ⟨by omega, by omega⟩ (by omega) (mnf := fun i => if i = (oF f (atF f n) 0) then aMn A (oF f (atF f n) 0) + ss.length else aMn A i) (dt := kAdt A (oF f (atF f n) 0) (aMn A (oF f (atF f n) 0)) ss.length (fun i : Nat => dF f (atF f n) (oF f (atF f n) 3 - 1) 0 + k * ((i : Int) + 1)) (fun j : Nat => smlF f (-1) (-1) (exM (aHs A (oF f (atF f n) 0)) (aAk A (oF f (atF f n) 0)) (aNo A (oF f (atF f n) 0))) ((fun i : Nat => dF f (atF f n) (oF f (atF f n) 3 - 1) 0 + k * ((i : Int) + 1)) j) (dF f (atF f n) (oF f (atF f n) 3 - 1) 1) (oF f (atF f n) 2)) (dF f (atF f n) (oF f (atF f n) 3 - 1) 1) (oF f (atF f n) 2)) (dx := dx) ⟨(if_pos rfl).trans (by rw [hse]), fun i hi => if_neg hi⟩ (fun i d hh w => kAdt_ne (fun y => by
                      rcases hh with hh | hh
                      · exact hh y.1
                      · have := y.2.1
                        omega)) (fun x hx => ?_) (fun k' k0 k1 => ?_)
                    · rw [hee] at y
                      exact y
                    · have z := kAdt_at (A := A) (n := (oF f (atF f n) 0)) (c := aMn A (oF f (atF f n) 0)) (e := ss.length) (K := (fun i : Nat => dF f (atF f n) (oF f (atF f n) 3 - 1) 0 + k * ((i : Int) + 1))) (S := fun j : Nat => smlF f (-1) (-1) (exM (aHs A (oF f (atF f n) 0)) (aAk A (oF f (atF f n) 0)) (aNo A (oF f (atF f n) 0))) ((fun i : Nat => dF f (atF f n) (oF f (atF f n) 3 - 1) 0 + k * ((i : Int) + 1)) j) (dF f (atF f n) (oF f (atF f n) 3 - 1) 1) (oF f (atF f n) 2)) (t := (dF f (atF f n) (oF f (atF f n) 3 - 1) 1)) (ln := (oF f (atF f n) 2)) (x := x) (by omega)
                      rw [hmn] at z
                      refine ⟨z.1, z.2.1, z.2.2.1, z.2.2.2.1.trans ?_, z.2.2.2.2⟩
                      show smlF f (-1) (-1) (exM (aHs A (oF f (atF f n) 0)) (aAk A (oF f (atF f n) 0)) (aNo A (oF f (atF f n) 0))) ((fun i : Nat => dF f (atF f n) (oF f (atF f n) 3 - 1) 0 + k * ((i : Int) + 1)) x) (dF f (atF f n) (oF f (atF f n) 3 - 1) 1) (oF f (atF f n) 2) = _
                      rw [eex]; rfl
                    · obtain ⟨u1, u2⟩ := hd6 k' k0 k1
                      refine ⟨u1.1, u1.2.2.1, fun x => (u2 x).trans ?_⟩
                      rw [hmn, hse]
                  exact k_iret dX5_extend_150 rfl rfl (kOy_mk (v := oF f (atF f n) 3 + e) (f' := (lyF (exF2 f (atF f n) k e.toNat) (atF f n) 3 (oF f (atF f n) 3 - 1 + 1 + e))) (by unfold Textend; first | exact kI_t (by omega) | (rw [kI_f (by omega)]; first | exact kI_f (by omega) | (rw [kI_t (by omega)]; first | exact kI_t (by omega) | (rw [kI_f (by omega)]; first | exact kI_t (by omega) | (rw [kI_f (by omega)]; first | exact kI_t (by omega) | (rw [kI_f (by omega)]; first | exact kI_t (by omega) | exact kI_f (by omega))))))) ⟨_, _, ⟨hR6, hL, hw⟩, fun b e9 g1 g2 => hu6 b e9 (hX5 b e9 g1) g2 (fun y => by
                    obtain ⟨j, ej⟩ := List.getElem?_of_mem y
                    exact absurd (hsl5.2 j b ej).1 (by rw [g1]; exact fun z => by cases z))⟩)
              · skip
                refine k_aload (pc1 := 97) dX5_extend_95 rfl rfl ?_
                refine k_new (pc1 := 100) dX5_extend_97 rfl nw_RX5_83 (by omega) (by omega) (fun q hq => ?_)
                have hS6 := (kup_ne (e := .inr (8, [.int 0, .int 0, .int 0])) (kne_new hS5 hq)).trans hS5
                refine k_dup (pc1 := 101) dX5_extend_100 rfl rfl ?_
                refine k_aload (pc1 := 103) dX5_extend_101 rfl rfl ?_
                refine k_get (pc1 := 106) dX5_extend_103 rfl fd_RX5_114 hS6 (v := .int (iI (dF f (atF f n) (oF f (atF f n) 3 - 1) 0))) rfl ?_
                refine k_iload (pc1 := 108) dX5_extend_106 rfl rfl ?_
                refine k_iload_n (pc1 := 109) dX5_extend_108 rfl rfl ?_
                refine k_imul (a := (((i : Nat) : Int) + 1)) (b := k) (pc1 := 110) dX5_extend_109 rfl ?_
                refine k_val (v' := .int (iI (k * (((i : Nat) : Int) + 1)))) (congrArg (fun z => Value.int (iI z)) (Int.mul_comm _ _)) ?_
                refine k_iadd (a := (dF f (atF f n) (oF f (atF f n) 3 - 1) 0)) (b := (k * (((i : Nat) : Int) + 1))) (pc1 := 111) dX5_extend_110 rfl ?_
                refine k_aload (pc1 := 113) dX5_extend_111 rfl rfl ?_
                refine k_get (pc1 := 116) dX5_extend_113 rfl fd_RX5_122 hS6 (v := .int (iI (dF f (atF f n) (oF f (atF f n) 3 - 1) 1))) rfl ?_
                refine k_aload (pc1 := 118) dX5_extend_116 rfl rfl ?_
                refine k_get (pc1 := 121) dX5_extend_118 rfl fd_RX5_125 hS6 (v := .int (iI (oF f (atF f n) 2))) rfl ?_
                refine k_callI dX5_extend_121 rfl lk_RX5_85 o_X4_init (as := [.int (iI ((dF f (atF f n) (oF f (atF f n) 3 - 1) 0) + (k * (((i : Nat) : Int) + 1)))), .int (iI (dF f (atF f n) (oF f (atF f n) 3 - 1) 1)), .int (iI (oF f (atF f n) 2))]) rfl rfl (w_slotI hl (kup_same _ _ _)) (fun E h9 z => z.elim) (by decide) (by decide) (by omega) (by omega) (k8 rfl) (fun v h3 hv => ?_)
                obtain ⟨hv1, hq3, hv3⟩ := hv
                subst hv1
                refine k_st (st' := [.ref q, .ref sl]) rfl ?_
                replace hv3 : ∀ b, b ≠ q → h3 b = h5 b := fun b hb => (hv3 b hb).trans (kup_ne hb)
                refine k_ged (fun hed3 => ?_)
                have hL3 : kLs G h3 sl ar5 c5 ss := kLs_fr hL5 (fun e he => (hv3 sl (kne_new he hq)).trans he) (fun e he => (hv3 ar5 (kne_new he hq)).trans he)
                obtain ⟨mc3, hL3a⟩ := hL3.1
                have hEs3 : ∀ y ∈ ss, ∃ vs : List Value, h3 y = some (.inr (8, vs)) := fun y hy => by
                  obtain ⟨j, ej⟩ := List.getElem?_of_mem hy
                  obtain ⟨-, z3⟩ := hsl5.2 j y ej
                  exact ⟨_, (hv3 y (kne_new z3 hq)).trans z3⟩
                refine k_callV dX5_extend_124 rfl lk_RX5_86 o_Jx4a65c_add_9ea2d (as := [.ref q]) rfl rfl hL3a rfl rfl (w_ladd hl hL3 (by omega) (ci := 8) rfl (by decide) (by decide) hEs3 hq3) (by decide) (by decide) (by omega) (by omega) (k8 rfl) (fun v h4 hv => ?_) (fun E h9 z => z.elim)
                obtain ⟨hv1, hx4⟩ := hv
                subst hv1
                refine k_st (st' := [.int (iI 1)]) rfl ?_
                refine k_pop (pc1 := 128) dX5_extend_127 rfl rfl ?_
                refine k_iinc (a := (((i : Nat) : Int) + 1)) (pc1 := 131) dX5_extend_128 rfl rfl (by decide) (k_loc (L' := [some (.ref pl), some (.int (iI n)), some (.int (iI k)), some (.int (iI e)), some (.ref (gMt γ (oF f (atF f n) 0))), some (.ref (gSt γ (oF f (atF f n) 0) ((oF f (atF f n) 3) - 1))), some (.ref sl), some (.int (iI ((((i : Nat) : Int) + 1) + 1)))]) rfl ?_)
                refine k_goto dX5_extend_131 (tgt := 89) rfl ?_
                obtain ⟨w1, ⟨ar6, c6, w2, w3⟩, w4⟩ := sl_step hX5 hsl hL5 har5 hed0 hed3 hsl5 hq (by rw [hsi]; exact hq3) hv3 hx4
                refine k_loc (L' := [some (.ref pl), some (.int (iI n)), some (.int (iI k)), some (.int (iI e)), some (.ref (gMt γ (oF f (atF f n) 0))), some (.ref (gSt γ (oF f (atF f n) 0) ((oF f (atF f n) 3) - 1))), some (.ref sl), some (.int (iI ((((i + 1 : Nat) : Nat) : Int) + 1)))]) (by rw [show ((i : Nat) : Int) + 1 + 1 = (((i + 1 : Nat) : Nat) : Int) + 1 by omega]) ?_
                exact k_widen (by omega) (by omega) (ih89 _ (by omega) (i + 1) h4 ar6 c6 (ss ++ [q]) rfl (by omega) w1 w2 (by rw [List.length_append, List.length_singleton, hsi]) w3 w4)
            exact k_widen (by omega) (by omega) (hloop89 _ 0 h1 G.2.2.2 0 [] rfl (by omega) hX1 hL1 rfl (Or.inl rfl) sl_0)
          · skip
            exact k_throw 70 71 73 76 rfl dX5_extend_67 dX5_extend_70 dX5_extend_71 dX5_extend_73 dX5_extend_76 rfl rfl rfl rfl rfl (by decide) (by decide) cl_RX5_69 ini_IllegalStateException (text := "a meeting has at most 6 dates") (by decide +kernel) at_RX5_73 (k8 rfl) (by decide) (by decide) (kOn_mk (c := 3) (v := 0) (f' := f) (by unfold Textend; first | exact kI_t (by omega) | (rw [kI_f (by omega)]; first | exact kI_f (by omega) | (rw [kI_t (by omega)]; first | exact kI_t (by omega) | (rw [kI_f (by omega)]; first | exact kI_t (by omega) | (rw [kI_f (by omega)]; first | exact kI_t (by omega) | (rw [kI_f (by omega)]; first | exact kI_t (by omega) | exact kI_f (by omega))))))) (by decide) rfl (kSt_rf hC))
        · skip
          refine k_callS dX5_extend_49 rfl rfl lk_RX5_117 o_X5_requireDay (as := [.int (iI ((dF f (atF f n) ((oF f (atF f n) 3) - 1) 0) + (k * e)))]) rfl rfl (w_rdN hl (by omega) hq49) (by decide) (by decide) (by decide) (by decide) (k8 rfl) (fun v h9 z => z.elim) (fun E h9 z => kx_out rfl ?_)
          obtain ⟨hv1, hv2⟩ := z
          subst hv1
          rw [hv2]
          exact (kOn_mk (c := 2) (v := 0) (f' := f) (by unfold Textend; first | exact kI_t (by omega) | (rw [kI_f (by omega)]; first | exact kI_f (by omega) | (rw [kI_t (by omega)]; first | exact kI_t (by omega) | (rw [kI_f (by omega)]; first | exact kI_t (by omega) | (rw [kI_f (by omega)]; first | exact kI_t (by omega) | (rw [kI_f (by omega)]; first | exact kI_t (by omega) | exact kI_f (by omega))))))) (by decide) rfl (kSt_rf hC))
      · skip
        refine k_callS dX5_extend_17 rfl rfl lk_RX5_49 o_X5_requireWithin (as := [.int (iI e), .int (iI 1), .int (iI 5)]) rfl rfl (w_rwN hl (by omega) (by decide) (by decide) hq17) (by decide) (by decide) (by decide) (by decide) (k8 rfl) (fun v h9 z => z.elim) (fun E h9 z => kx_out rfl ?_)
        obtain ⟨hv1, hv2⟩ := z
        subst hv1
        rw [hv2]
        exact (kOn_mk (c := 2) (v := 0) (f' := f) (by unfold Textend; first | exact kI_t (by omega) | (rw [kI_f (by omega)]; first | exact kI_f (by omega) | (rw [kI_t (by omega)]; first | exact kI_t (by omega) | (rw [kI_f (by omega)]; first | exact kI_t (by omega) | (rw [kI_f (by omega)]; first | exact kI_t (by omega) | (rw [kI_f (by omega)]; first | exact kI_t (by omega) | exact kI_f (by omega))))))) (by decide) rfl (kSt_rf hC))
    · skip
      refine k_callS dX5_extend_11 rfl rfl lk_RX5_49 o_X5_requireWithin (as := [.int (iI k), .int (iI 1), .int (iI 14)]) rfl rfl (w_rwN hl (by omega) (by decide) (by decide) hq11) (by decide) (by decide) (by decide) (by decide) (k8 rfl) (fun v h9 z => z.elim) (fun E h9 z => kx_out rfl ?_)
      obtain ⟨hv1, hv2⟩ := z
      subst hv1
      rw [hv2]
      exact (kOn_mk (c := 2) (v := 0) (f' := f) (by unfold Textend; first | exact kI_t (by omega) | (rw [kI_f (by omega)]; first | exact kI_f (by omega) | (rw [kI_t (by omega)]; first | exact kI_t (by omega) | (rw [kI_f (by omega)]; first | exact kI_t (by omega) | (rw [kI_f (by omega)]; first | exact kI_t (by omega) | (rw [kI_f (by omega)]; first | exact kI_t (by omega) | exact kI_f (by omega))))))) (by decide) rfl (kSt_rf hC))
