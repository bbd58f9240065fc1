/-! ===== the class: who may not come back, walked ===== -/
theorem kJo_of {G : kG} {h : kAH} {pl : Nat} {γ : kGh} {A : kAb} {f : Nat → Int} (q : kRp G h pl γ A f) {m : Int} (h0 : 0 ≤ m) (h1 : m < f 1) : kJo γ f (some (gMt γ (oF f m 0))) m := by
  intro m' a0 a1
  constructor
  · intro e
    have e2 := Option.some.inj e
    obtain ⟨l1, -⟩ := q.2.1.2.2.2.1 m h0 h1
    obtain ⟨l2, -⟩ := q.2.1.2.2.2.1 m' a0 a1
    have t1 := (q.1.2.2.2.2.2.2.1 _ l1).2.1.2
    have t2 := (q.1.2.2.2.2.2.2.1 _ l2).2.1.2
    rw [e2, t1] at t2
    have u : (oF f m 0).toNat = (oF f m' 0).toNat := congrArg Prod.snd t2
    have g1 := kWf_m q.2.2 h0 h1
    have g2 := kWf_m q.2.2 a0 a1
    exact rp_num q a0 a1 h0 h1 (by omega)
  · rintro rfl; rfl
theorem wc_cl {f : Nat → Int} {m d p : Int} (hp : 0 ≤ p ∧ p < 6) : wcF f m d m (2 ^ p.toNat) (dF f m d 3) (dF f m d 0) (dF f m d 1) (oF f m 2) ↔ clF f m d p := by
  obtain ⟨i, rfl⟩ := Int.eq_ofNat_of_zero_le hp.1
  rw [Int.toNat_natCast]
  constructor
  · rintro ⟨m', d', hi, ⟨u1, u2, u3⟩, u4, u5⟩
    refine ⟨m', d', hi, u3, u1, ?_, u2, u5⟩
    rcases u4 with u4 | ⟨p', hp', u6, u7⟩
    · exact Or.inl u4
    · rw [Nat.testBit_two_pow, decide_eq_true_eq] at u7
      subst u7
      exact Or.inr u6
  · rintro ⟨m', d', hi, u3, u1, u4, u2, u5⟩
    refine ⟨m', d', hi, ⟨u1, u2, u3⟩, ?_, u5⟩
    rcases u4 with u4 | u4
    · exact Or.inl u4
    · exact Or.inr ⟨i, by omega, u4, by rw [Nat.testBit_two_pow, decide_eq_true_eq]⟩
theorem w_slN {l : Launch} {G : kG} {h : kAH} (hl : l.stackTraces = false) {pl : Nat} {γ : kGh} {A : kAb} {f : Nat → Int} (hC : kRp G h pl γ A f) {m : Int} (hm0 : 0 ≤ m) (hm1 : m < f 1)  (hc : 0 ≤ ko3 f m) : kC l G m_X5_requireSeatsLeft 4 1 6 [.ref pl, .ref (gMt γ (oF f m 0))] h kNv (kRf G pl γ h (rfF f 3 (ko3 f m)) "java/lang/UnsupportedOperationException") := by
  refine kC_of hl rfl rfl (Nat.le_of_ble_eq_true rfl) (L := [some (.ref pl), some (.ref (gMt γ (oF f m 0))), none, none, none]) rfl ?_
  have hmm := kWf_m hC.2.2 (m := m) hm0 hm1
  have hmx := rp_Mx hC (m := m) hm0 hm1
  obtain ⟨arE, cE, hMd⟩ := rp_Md hC (m := m) hm0 hm1
  obtain ⟨mcE, hMe⟩ := hMd.1
  have h8 := kWf_cnt hC.2.2
  refine k_aload_n (pc1 := 1) dX5_requireSeatsLeft_0 rfl rfl ?_
  refine k_callVP dX5_requireSeatsLeft_1 rfl lk_RX5_206 o_X2_expectedCount (w_X2_expectedCount hl (rp_M hC (m := m) hm0 hm1) ⟨by omega, by omega⟩ hmx.1 hmx.2.1 hmx.2.2.1) (as := []) (rp_M hC (m := m) hm0 hm1) rfl rfl rfl rfl (by decide) (by decide) (k8 rfl) ?_
  refine k_val (v' := .int (iI (kpo (ppF f m) 6))) (congrArg (fun z => Value.int (iI (kpo z 6))) (rp_ex hC (m := m) (by omega) (by omega))) ?_
  refine k_istore_n (pc1 := 5) dX5_requireSeatsLeft_4 rfl (by decide) (k_loc (L' := [some (.ref pl), some (.ref (gMt γ (oF f m 0))), some (.int (iI (kpo (ppF f m) 6))), none, none]) rfl ?_)
  refine k_iconst (pc1 := 6) dX5_requireSeatsLeft_5 rfl ?_
  refine k_istore_n (pc1 := 7) dX5_requireSeatsLeft_6 rfl (by decide) (k_loc (L' := [some (.ref pl), some (.ref (gMt γ (oF f m 0))), some (.int (iI (kpo (ppF f m) 6))), some (.int (iI 0)), none]) rfl ?_)
  have hloop7 : ∀ (zz : Nat) (i : Nat), zz = (oF f m 3 - ((i : Nat) : Int)).toNat → (((i : Nat) : Int) ≤ oF f m 3) → (∀ j : Nat, j < i → ¬ (fun d => onF f m (d : Int) ∧ f (5 + dF f m (d : Int) 3).toNat ≤ kpo (ppF f m) 6) j) → kW l G m_X5_requireSeatsLeft 4 kNv (kRf G pl γ h (rfF f 3 (ko3 f m)) "java/lang/UnsupportedOperationException") 1 6 7 [some (.ref pl), some (.ref (gMt γ (oF f m 0))), some (.int (iI (kpo (ppF f m) 6))), some (.int (iI ((i : Nat) : Int))), none] [] h := by
    intro zz
    induction zz using Nat.strongRecOn with
    | ind zz ih7 =>
    intro i hr7 hi9 hJ
    refine k_iload_n (pc1 := 8) dX5_requireSeatsLeft_7 rfl rfl ?_
    refine k_aload_n (pc1 := 9) dX5_requireSeatsLeft_8 rfl rfl ?_
    refine k_get (pc1 := 12) dX5_requireSeatsLeft_9 rfl fd_RX5_101 (rp_M hC (m := m) hm0 hm1) (v := .ref (gMd γ (oF f m 0))) rfl ?_
    refine k_callVP dX5_requireSeatsLeft_12 rfl lk_RX5_65 o_Jx4a65c_size_8abf5 (w_lsz hl hMd) (as := []) hMe rfl rfl rfl rfl (by decide) (by decide) (k8 rfl) ?_
    refine k_val (v' := .int (iI (oF f m 3))) (congrArg (fun z : Int => Value.int (iI z)) (by rw [List.length_map, List.length_range]; omega)) ?_
    refine k_icmp_ge (a := ((i : Nat) : Int)) (b := (oF f m 3)) dX5_requireSeatsLeft_15 rfl (tgt := 74) rfl (by omega) (by omega) (fun c15 : (oF f m 3) ≤ ((i : Nat) : Int) => ?_) (fun c15 : ((i : Nat) : Int) < (oF f m 3) => ?_)
    · skip
      have ek : ko3 f m = -1 := kls_none (fun j hj => hJ j (by omega))
      exfalso; omega
    · skip
      have hi : inP f m ((i : Nat) : Int) := ⟨hm0, hm1, by omega, by omega⟩
      have hmd := kWf_d hC.2.2 hi.1 hi.2.1 hi.2.2.1 hi.2.2.2
      have hrd := kWf_room hC.2.2 (r := dF f m ((i : Nat) : Int) 3) (by omega) (by omega)
      have hkp := kpo_rng (ppF f m) 6
      refine k_aload_n (pc1 := 19) dX5_requireSeatsLeft_18 rfl rfl ?_
      refine k_get (pc1 := 22) dX5_requireSeatsLeft_19 rfl fd_RX5_101 (rp_M hC hi.1 hi.2.1) (v := .ref (gMd γ (oF f m 0))) rfl ?_
      refine k_iload_n (pc1 := 23) dX5_requireSeatsLeft_22 rfl rfl ?_
      refine k_callVP dX5_requireSeatsLeft_23 rfl lk_RX5_131 o_Jx4a65c_get_915e3 (w_lgt hl hMd ((i : Nat) : Int) ⟨by omega, by rw [List.length_map, List.length_range]; omega⟩ (by rw [List.getElem?_map, List.getElem?_range (by omega)]; show some (gDt γ (oF f m 0) ((Int.toNat ((i : Nat) : Int) : Nat) : Int)) = _; rw [Int.toNat_of_nonneg (by omega)])) (as := [.int (iI ((i : Nat) : Int))]) hMe rfl rfl rfl rfl (by decide) (by decide) (k8 rfl) ?_
      refine k_cast (r := (RX0, TX0, 4)) (pc1 := 29) dX5_requireSeatsLeft_26 rfl cl_RX5_109 (rp_D hC hi) rfl ?_
      refine k_astore (pc1 := 31) dX5_requireSeatsLeft_29 rfl (by decide) (k_loc (L' := [some (.ref pl), some (.ref (gMt γ (oF f m 0))), some (.int (iI (kpo (ppF f m) 6))), some (.int (iI ((i : Nat) : Int))), some (.ref (gDt γ (oF f m 0) ((i : Nat) : Int)))]) rfl ?_)
      refine k_aload (pc1 := 33) dX5_requireSeatsLeft_31 rfl rfl ?_
      refine k_get (pc1 := 36) dX5_requireSeatsLeft_33 rfl fd_RX5_175 (rp_D hC hi) (v := .int (iI (dF f m ((i : Nat) : Int) 2))) rfl ?_
      refine k_if_ne (a := (dF f m ((i : Nat) : Int) 2)) dX5_requireSeatsLeft_36 rfl (tgt := 68) rfl (by omega) (fun c36 : (dF f m ((i : Nat) : Int) 2) ≠ 0 => ?_) (fun c36 : (dF f m ((i : Nat) : Int) 2) = 0 => ?_)
      · skip
        refine k_iinc (a := ((i : Nat) : Int)) (pc1 := 71) dX5_requireSeatsLeft_68 rfl rfl (by decide) (k_loc (L' := [some (.ref pl), some (.ref (gMt γ (oF f m 0))), some (.int (iI (kpo (ppF f m) 6))), some (.int (iI (((i : Nat) : Int) + 1))), some (.ref (gDt γ (oF f m 0) ((i : Nat) : Int)))]) rfl ?_)
        refine k_goto dX5_requireSeatsLeft_71 (tgt := 7) rfl ?_
        refine k_forget 4 (k_loc (L' := [some (.ref pl), some (.ref (gMt γ (oF f m 0))), some (.int (iI (kpo (ppF f m) 6))), some (.int (iI (((i : Nat) : Int) + 1))), none]) rfl ?_)
        exact ih7 _ (by omega) (i + 1) rfl (by omega) (fun j hj => if e : j = i then (fun z => by subst e; first | (have z1 : dF f m ((j : Nat) : Int) 2 = 0 := z.1; omega) | (have z2 := z.2; omega)) else hJ j (by omega))
      · skip
        refine k_aload (pc1 := 41) dX5_requireSeatsLeft_39 rfl rfl ?_
        refine k_get (pc1 := 44) dX5_requireSeatsLeft_41 rfl fd_RX5_190 (rp_D hC hi) (v := .ref (gRm γ (dF f m ((i : Nat) : Int) 3))) rfl ?_
        refine k_get (pc1 := 47) dX5_requireSeatsLeft_44 rfl fd_RX5_52 (rp_R hC (r := dF f m ((i : Nat) : Int) 3) (by omega) (by omega)) (v := .int (iI (f (5 + (dF f m ((i : Nat) : Int) 3)).toNat))) rfl ?_
        refine k_iload_n (pc1 := 48) dX5_requireSeatsLeft_47 rfl rfl ?_
        refine k_icmp_gt (a := (f (5 + (dF f m ((i : Nat) : Int) 3)).toNat)) (b := (kpo (ppF f m) 6)) dX5_requireSeatsLeft_48 rfl (tgt := 68) rfl (by omega) (by omega) (fun c48 : (kpo (ppF f m) 6) < (f (5 + (dF f m ((i : Nat) : Int) 3)).toNat) => ?_) (fun c48 : (f (5 + (dF f m ((i : Nat) : Int) 3)).toNat) ≤ (kpo (ppF f m) 6) => ?_)
        · skip
          refine k_iinc (a := ((i : Nat) : Int)) (pc1 := 71) dX5_requireSeatsLeft_68 rfl rfl (by decide) (k_loc (L' := [some (.ref pl), some (.ref (gMt γ (oF f m 0))), some (.int (iI (kpo (ppF f m) 6))), some (.int (iI (((i : Nat) : Int) + 1))), some (.ref (gDt γ (oF f m 0) ((i : Nat) : Int)))]) rfl ?_)
          refine k_goto dX5_requireSeatsLeft_71 (tgt := 7) rfl ?_
          refine k_forget 4 (k_loc (L' := [some (.ref pl), some (.ref (gMt γ (oF f m 0))), some (.int (iI (kpo (ppF f m) 6))), some (.int (iI (((i : Nat) : Int) + 1))), none]) rfl ?_)
          exact ih7 _ (by omega) (i + 1) rfl (by omega) (fun j hj => if e : j = i then (fun z => by subst e; first | (have z1 : dF f m ((j : Nat) : Int) 2 = 0 := z.1; omega) | (have z2 := z.2; omega)) else hJ j (by omega))
        · skip
          have ek : ko3 f m = ((i : Nat) : Int) := kls_at (n := (oF f m 3).toNat) (by omega) ⟨show dF f m ((i : Nat) : Int) 2 = 0 by omega, c48⟩ hJ
          refine k_aload_n (pc1 := 52) dX5_requireSeatsLeft_51 rfl rfl ?_
          refine k_iconst (pc1 := 53) dX5_requireSeatsLeft_52 rfl ?_
          refine k_iload_n (pc1 := 54) dX5_requireSeatsLeft_53 rfl rfl ?_
          refine k_callV dX5_requireSeatsLeft_54 rfl lk_RX5_314 o_X5_noteRefusal (as := [.int (iI 3), .int (iI ((i : Nat) : Int))]) rfl rfl (rp_P hC) rfl rfl (w_noteR hl hC (a := 3) (b := ((i : Nat) : Int)) ⟨by omega, by omega⟩ ⟨by omega, by omega⟩) (by decide) (by decide) (Nat.zero_le _) (Nat.zero_le _) (k8 rfl) (fun v h1 hv => ?_) (fun E h9 z => z.elim)
          obtain ⟨hv1, ⟨A1, hC1⟩, hfr1⟩ := hv
          subst hv1
          refine k_st (st' := []) rfl ?_
          exact k_throwW 60 61 64 67 rfl dX5_requireSeatsLeft_57 dX5_requireSeatsLeft_60 dX5_requireSeatsLeft_61 dX5_requireSeatsLeft_64 dX5_requireSeatsLeft_67 rfl rfl rfl rfl rfl (by decide) (by decide) cl_RX5_318 ini_UnsupportedOperationException (text := "no seat is left") (by decide +kernel) at_RX5_322 (k8 rfl) (by decide) (by decide) ⟨rfl, A1, by rw [ek]; exact hC1, hfr1⟩
  exact hloop7 _ 0 rfl (by omega) (fun j hj => absurd hj (by omega))
theorem w_slY {l : Launch} {G : kG} {h : kAH} (hl : l.stackTraces = false) {pl : Nat} {γ : kGh} {A : kAb} {f : Nat → Int} (hC : kRp G h pl γ A f) {m : Int} (hm0 : 0 ≤ m) (hm1 : m < f 1)  (hc : ¬ 0 ≤ ko3 f m) : kC l G m_X5_requireSeatsLeft 4 0 0 [.ref pl, .ref (gMt γ (oF f m 0))] h (fun v h' => v = none ∧ h' = h) kNo := by
  refine kC_of hl rfl rfl (Nat.le_of_ble_eq_true rfl) (L := [some (.ref pl), some (.ref (gMt γ (oF f m 0))), none, none, none]) rfl ?_
  have hmm := kWf_m hC.2.2 (m := m) hm0 hm1
  have hmx := rp_Mx hC (m := m) hm0 hm1
  obtain ⟨arE, cE, hMd⟩ := rp_Md hC (m := m) hm0 hm1
  obtain ⟨mcE, hMe⟩ := hMd.1
  have h8 := kWf_cnt hC.2.2
  refine k_aload_n (pc1 := 1) dX5_requireSeatsLeft_0 rfl rfl ?_
  refine k_callVP dX5_requireSeatsLeft_1 rfl lk_RX5_206 o_X2_expectedCount (w_X2_expectedCount hl (rp_M hC (m := m) hm0 hm1) ⟨by omega, by omega⟩ hmx.1 hmx.2.1 hmx.2.2.1) (as := []) (rp_M hC (m := m) hm0 hm1) rfl rfl rfl rfl (by decide) (by decide) (k8 rfl) ?_
  refine k_val (v' := .int (iI (kpo (ppF f m) 6))) (congrArg (fun z => Value.int (iI (kpo z 6))) (rp_ex hC (m := m) (by omega) (by omega))) ?_
  refine k_istore_n (pc1 := 5) dX5_requireSeatsLeft_4 rfl (by decide) (k_loc (L' := [some (.ref pl), some (.ref (gMt γ (oF f m 0))), some (.int (iI (kpo (ppF f m) 6))), none, none]) rfl ?_)
  refine k_iconst (pc1 := 6) dX5_requireSeatsLeft_5 rfl ?_
  refine k_istore_n (pc1 := 7) dX5_requireSeatsLeft_6 rfl (by decide) (k_loc (L' := [some (.ref pl), some (.ref (gMt γ (oF f m 0))), some (.int (iI (kpo (ppF f m) 6))), some (.int (iI 0)), none]) rfl ?_)
  have hloop7 : ∀ (zz : Nat) (i : Nat), zz = (oF f m 3 - ((i : Nat) : Int)).toNat → (((i : Nat) : Int) ≤ oF f m 3) → (∀ j : Nat, j < i → ¬ (fun d => onF f m (d : Int) ∧ f (5 + dF f m (d : Int) 3).toNat ≤ kpo (ppF f m) 6) j) → kW l G m_X5_requireSeatsLeft 4 (fun v h' => v = none ∧ h' = h) kNo 0 0 7 [some (.ref pl), some (.ref (gMt γ (oF f m 0))), some (.int (iI (kpo (ppF f m) 6))), some (.int (iI ((i : Nat) : Int))), none] [] h := by
    intro zz
    induction zz using Nat.strongRecOn with
    | ind zz ih7 =>
    intro i hr7 hi9 hJ
    refine k_iload_n (pc1 := 8) dX5_requireSeatsLeft_7 rfl rfl ?_
    refine k_aload_n (pc1 := 9) dX5_requireSeatsLeft_8 rfl rfl ?_
    refine k_get (pc1 := 12) dX5_requireSeatsLeft_9 rfl fd_RX5_101 (rp_M hC (m := m) hm0 hm1) (v := .ref (gMd γ (oF f m 0))) rfl ?_
    refine k_callVP dX5_requireSeatsLeft_12 rfl lk_RX5_65 o_Jx4a65c_size_8abf5 (w_lsz hl hMd) (as := []) hMe rfl rfl rfl rfl (by decide) (by decide) (k8 rfl) ?_
    refine k_val (v' := .int (iI (oF f m 3))) (congrArg (fun z : Int => Value.int (iI z)) (by rw [List.length_map, List.length_range]; omega)) ?_
    refine k_icmp_ge (a := ((i : Nat) : Int)) (b := (oF f m 3)) dX5_requireSeatsLeft_15 rfl (tgt := 74) rfl (by omega) (by omega) (fun c15 : (oF f m 3) ≤ ((i : Nat) : Int) => ?_) (fun c15 : ((i : Nat) : Int) < (oF f m 3) => ?_)
    · skip
      have ek : ko3 f m = -1 := kls_none (fun j hj => hJ j (by omega))
      exact k_vret dX5_requireSeatsLeft_74 rfl ⟨rfl, rfl⟩
    · skip
      have hi : inP f m ((i : Nat) : Int) := ⟨hm0, hm1, by omega, by omega⟩
      have hmd := kWf_d hC.2.2 hi.1 hi.2.1 hi.2.2.1 hi.2.2.2
      have hrd := kWf_room hC.2.2 (r := dF f m ((i : Nat) : Int) 3) (by omega) (by omega)
      have hkp := kpo_rng (ppF f m) 6
      refine k_aload_n (pc1 := 19) dX5_requireSeatsLeft_18 rfl rfl ?_
      refine k_get (pc1 := 22) dX5_requireSeatsLeft_19 rfl fd_RX5_101 (rp_M hC hi.1 hi.2.1) (v := .ref (gMd γ (oF f m 0))) rfl ?_
      refine k_iload_n (pc1 := 23) dX5_requireSeatsLeft_22 rfl rfl ?_
      refine k_callVP dX5_requireSeatsLeft_23 rfl lk_RX5_131 o_Jx4a65c_get_915e3 (w_lgt hl hMd ((i : Nat) : Int) ⟨by omega, by rw [List.length_map, List.length_range]; omega⟩ (by rw [List.getElem?_map, List.getElem?_range (by omega)]; show some (gDt γ (oF f m 0) ((Int.toNat ((i : Nat) : Int) : Nat) : Int)) = _; rw [Int.toNat_of_nonneg (by omega)])) (as := [.int (iI ((i : Nat) : Int))]) hMe rfl rfl rfl rfl (by decide) (by decide) (k8 rfl) ?_
      refine k_cast (r := (RX0, TX0, 4)) (pc1 := 29) dX5_requireSeatsLeft_26 rfl cl_RX5_109 (rp_D hC hi) rfl ?_
      refine k_astore (pc1 := 31) dX5_requireSeatsLeft_29 rfl (by decide) (k_loc (L' := [some (.ref pl), some (.ref (gMt γ (oF f m 0))), some (.int (iI (kpo (ppF f m) 6))), some (.int (iI ((i : Nat) : Int))), some (.ref (gDt γ (oF f m 0) ((i : Nat) : Int)))]) rfl ?_)
      refine k_aload (pc1 := 33) dX5_requireSeatsLeft_31 rfl rfl ?_
      refine k_get (pc1 := 36) dX5_requireSeatsLeft_33 rfl fd_RX5_175 (rp_D hC hi) (v := .int (iI (dF f m ((i : Nat) : Int) 2))) rfl ?_
      refine k_if_ne (a := (dF f m ((i : Nat) : Int) 2)) dX5_requireSeatsLeft_36 rfl (tgt := 68) rfl (by omega) (fun c36 : (dF f m ((i : Nat) : Int) 2) ≠ 0 => ?_) (fun c36 : (dF f m ((i : Nat) : Int) 2) = 0 => ?_)
      · skip
        refine k_iinc (a := ((i : Nat) : Int)) (pc1 := 71) dX5_requireSeatsLeft_68 rfl rfl (by decide) (k_loc (L' := [some (.ref pl), some (.ref (gMt γ (oF f m 0))), some (.int (iI (kpo (ppF f m) 6))), some (.int (iI (((i : Nat) : Int) + 1))), some (.ref (gDt γ (oF f m 0) ((i : Nat) : Int)))]) rfl ?_)
        refine k_goto dX5_requireSeatsLeft_71 (tgt := 7) rfl ?_
        refine k_forget 4 (k_loc (L' := [some (.ref pl), some (.ref (gMt γ (oF f m 0))), some (.int (iI (kpo (ppF f m) 6))), some (.int (iI (((i : Nat) : Int) + 1))), none]) rfl ?_)
        exact ih7 _ (by omega) (i + 1) rfl (by omega) (fun j hj => if e : j = i then (fun z => by subst e; first | (have z1 : dF f m ((j : Nat) : Int) 2 = 0 := z.1; omega) | (have z2 := z.2; omega)) else hJ j (by omega))
      · skip
        refine k_aload (pc1 := 41) dX5_requireSeatsLeft_39 rfl rfl ?_
        refine k_get (pc1 := 44) dX5_requireSeatsLeft_41 rfl fd_RX5_190 (rp_D hC hi) (v := .ref (gRm γ (dF f m ((i : Nat) : Int) 3))) rfl ?_
        refine k_get (pc1 := 47) dX5_requireSeatsLeft_44 rfl fd_RX5_52 (rp_R hC (r := dF f m ((i : Nat) : Int) 3) (by omega) (by omega)) (v := .int (iI (f (5 + (dF f m ((i : Nat) : Int) 3)).toNat))) rfl ?_
        refine k_iload_n (pc1 := 48) dX5_requireSeatsLeft_47 rfl rfl ?_
        refine k_icmp_gt (a := (f (5 + (dF f m ((i : Nat) : Int) 3)).toNat)) (b := (kpo (ppF f m) 6)) dX5_requireSeatsLeft_48 rfl (tgt := 68) rfl (by omega) (by omega) (fun c48 : (kpo (ppF f m) 6) < (f (5 + (dF f m ((i : Nat) : Int) 3)).toNat) => ?_) (fun c48 : (f (5 + (dF f m ((i : Nat) : Int) 3)).toNat) ≤ (kpo (ppF f m) 6) => ?_)
        · skip
          refine k_iinc (a := ((i : Nat) : Int)) (pc1 := 71) dX5_requireSeatsLeft_68 rfl rfl (by decide) (k_loc (L' := [some (.ref pl), some (.ref (gMt γ (oF f m 0))), some (.int (iI (kpo (ppF f m) 6))), some (.int (iI (((i : Nat) : Int) + 1))), some (.ref (gDt γ (oF f m 0) ((i : Nat) : Int)))]) rfl ?_)
          refine k_goto dX5_requireSeatsLeft_71 (tgt := 7) rfl ?_
          refine k_forget 4 (k_loc (L' := [some (.ref pl), some (.ref (gMt γ (oF f m 0))), some (.int (iI (kpo (ppF f m) 6))), some (.int (iI (((i : Nat) : Int) + 1))), none]) rfl ?_)
          exact ih7 _ (by omega) (i + 1) rfl (by omega) (fun j hj => if e : j = i then (fun z => by subst e; first | (have z1 : dF f m ((j : Nat) : Int) 2 = 0 := z.1; omega) | (have z2 := z.2; omega)) else hJ j (by omega))
        · skip
          have ek : ko3 f m = ((i : Nat) : Int) := kls_at (n := (oF f m 3).toNat) (by omega) ⟨show dF f m ((i : Nat) : Int) 2 = 0 by omega, c48⟩ hJ
          exfalso; omega
  exact hloop7 _ 0 rfl (by omega) (fun j hj => absurd hj (by omega))
theorem w_ncN {l : Launch} {G : kG} {h : kAH} (hl : l.stackTraces = false) {pl : Nat} {γ : kGh} {A : kAb} {f : Nat → Int} (hC : kRp G h pl γ A f) {m : Int} (hm0 : 0 ≤ m) (hm1 : m < f 1) {p : Int} (hp : 0 ≤ p ∧ p < 6) (hc : 0 ≤ ko4 f m p) : kC l G m_X5_requireNoClashFor 5 1 6 [.ref pl, .int (iI p), .ref (gMt γ (oF f m 0))] h kNv (kRf G pl γ h (rfF f 4 (ko4 f m p)) "java/lang/UnsupportedOperationException") := by
  refine kC_of hl rfl rfl (Nat.le_of_ble_eq_true rfl) (L := [some (.ref pl), some (.int (iI p)), some (.ref (gMt γ (oF f m 0))), none, none]) rfl ?_
  have hmm := kWf_m hC.2.2 (m := m) hm0 hm1
  have hmx := rp_Mx hC (m := m) hm0 hm1
  obtain ⟨arE, cE, hMd⟩ := rp_Md hC (m := m) hm0 hm1
  obtain ⟨mcE, hMe⟩ := hMd.1
  have h8 := kWf_cnt hC.2.2
  refine k_iconst (pc1 := 1) dX5_requireNoClashFor_0 rfl ?_
  refine k_istore_n (pc1 := 2) dX5_requireNoClashFor_1 rfl (by decide) (k_loc (L' := [some (.ref pl), some (.int (iI p)), some (.ref (gMt γ (oF f m 0))), some (.int (iI 0)), none]) rfl ?_)
  have hloop2 : ∀ (zz : Nat) (i : Nat), zz = (oF f m 3 - ((i : Nat) : Int)).toNat → (((i : Nat) : Int) ≤ oF f m 3) → (∀ j : Nat, j < i → ¬ (fun d => onF f m (d : Int) ∧ clF f m (d : Int) p) j) → kW l G m_X5_requireNoClashFor 5 kNv (kRf G pl γ h (rfF f 4 (ko4 f m p)) "java/lang/UnsupportedOperationException") 1 6 2 [some (.ref pl), some (.int (iI p)), some (.ref (gMt γ (oF f m 0))), some (.int (iI ((i : Nat) : Int))), none] [] h := by
    intro zz
    induction zz using Nat.strongRecOn with
    | ind zz ih2 =>
    intro i hr2 hi9 hJ
    refine k_iload_n (pc1 := 3) dX5_requireNoClashFor_2 rfl rfl ?_
    refine k_aload_n (pc1 := 4) dX5_requireNoClashFor_3 rfl rfl ?_
    refine k_get (pc1 := 7) dX5_requireNoClashFor_4 rfl fd_RX5_101 (rp_M hC (m := m) hm0 hm1) (v := .ref (gMd γ (oF f m 0))) rfl ?_
    refine k_callVP dX5_requireNoClashFor_7 rfl lk_RX5_65 o_Jx4a65c_size_8abf5 (w_lsz hl hMd) (as := []) hMe rfl rfl rfl rfl (by decide) (by decide) (k8 rfl) ?_
    refine k_val (v' := .int (iI (oF f m 3))) (congrArg (fun z : Int => Value.int (iI z)) (by rw [List.length_map, List.length_range]; omega)) ?_
    refine k_icmp_ge (a := ((i : Nat) : Int)) (b := (oF f m 3)) dX5_requireNoClashFor_10 rfl (tgt := 81) rfl (by omega) (by omega) (fun c10 : (oF f m 3) ≤ ((i : Nat) : Int) => ?_) (fun c10 : ((i : Nat) : Int) < (oF f m 3) => ?_)
    · skip
      have ek : ko4 f m p = -1 := kls_none (fun j hj => hJ j (by omega))
      exfalso; omega
    · skip
      have hi : inP f m ((i : Nat) : Int) := ⟨hm0, hm1, by omega, by omega⟩
      have hmd := kWf_d hC.2.2 hi.1 hi.2.1 hi.2.2.1 hi.2.2.2
      have hrd := kWf_room hC.2.2 (r := dF f m ((i : Nat) : Int) 3) (by omega) (by omega)
      have hkp := kpo_rng (ppF f m) 6
      refine k_aload_n (pc1 := 14) dX5_requireNoClashFor_13 rfl rfl ?_
      refine k_get (pc1 := 17) dX5_requireNoClashFor_14 rfl fd_RX5_101 (rp_M hC hi.1 hi.2.1) (v := .ref (gMd γ (oF f m 0))) rfl ?_
      refine k_iload_n (pc1 := 18) dX5_requireNoClashFor_17 rfl rfl ?_
      refine k_callVP dX5_requireNoClashFor_18 rfl lk_RX5_131 o_Jx4a65c_get_915e3 (w_lgt hl hMd ((i : Nat) : Int) ⟨by omega, by rw [List.length_map, List.length_range]; omega⟩ (by rw [List.getElem?_map, List.getElem?_range (by omega)]; show some (gDt γ (oF f m 0) ((Int.toNat ((i : Nat) : Int) : Nat) : Int)) = _; rw [Int.toNat_of_nonneg (by omega)])) (as := [.int (iI ((i : Nat) : Int))]) hMe rfl rfl rfl rfl (by decide) (by decide) (k8 rfl) ?_
      refine k_cast (r := (RX0, TX0, 4)) (pc1 := 24) dX5_requireNoClashFor_21 rfl cl_RX5_109 (rp_D hC hi) rfl ?_
      refine k_astore (pc1 := 26) dX5_requireNoClashFor_24 rfl (by decide) (k_loc (L' := [some (.ref pl), some (.int (iI p)), some (.ref (gMt γ (oF f m 0))), some (.int (iI ((i : Nat) : Int))), some (.ref (gDt γ (oF f m 0) ((i : Nat) : Int)))]) rfl ?_)
      refine k_aload (pc1 := 28) dX5_requireNoClashFor_26 rfl rfl ?_
      refine k_get (pc1 := 31) dX5_requireNoClashFor_28 rfl fd_RX5_175 (rp_D hC hi) (v := .int (iI (dF f m ((i : Nat) : Int) 2))) rfl ?_
      refine k_if_ne (a := (dF f m ((i : Nat) : Int) 2)) dX5_requireNoClashFor_31 rfl (tgt := 75) rfl (by omega) (fun c31 : (dF f m ((i : Nat) : Int) 2) ≠ 0 => ?_) (fun c31 : (dF f m ((i : Nat) : Int) 2) = 0 => ?_)
      · skip
        refine k_iinc (a := ((i : Nat) : Int)) (pc1 := 78) dX5_requireNoClashFor_75 rfl rfl (by decide) (k_loc (L' := [some (.ref pl), some (.int (iI p)), some (.ref (gMt γ (oF f m 0))), some (.int (iI (((i : Nat) : Int) + 1))), some (.ref (gDt γ (oF f m 0) ((i : Nat) : Int)))]) rfl ?_)
        refine k_goto dX5_requireNoClashFor_78 (tgt := 2) rfl ?_
        refine k_forget 4 (k_loc (L' := [some (.ref pl), some (.int (iI p)), some (.ref (gMt γ (oF f m 0))), some (.int (iI (((i : Nat) : Int) + 1))), none]) rfl ?_)
        exact ih2 _ (by omega) (i + 1) rfl (by omega) (fun j hj => if e : j = i then (fun z => by subst e; first | (have z1 : dF f m ((j : Nat) : Int) 2 = 0 := z.1; omega) | exact c55 ((wc_cl hp).mpr z.2)) else hJ j (by omega))
      · skip
        refine k_aload_n (pc1 := 35) dX5_requireNoClashFor_34 rfl rfl ?_
        refine k_iload_n (pc1 := 36) dX5_requireNoClashFor_35 rfl rfl ?_
        have hqp : 2 ^ p.toNat < 64 := k2p_lt (by omega)
        refine k_callSP dX5_requireNoClashFor_36 rfl lk_RX5_78 o_X5_bitOf (w_X5_bitOf hl p ⟨by omega, by omega⟩) (as := [.int (iI p)]) rfl rfl rfl (by decide) (by decide) (k8 rfl) ?_
        refine k_aload_n (pc1 := 40) dX5_requireNoClashFor_39 rfl rfl ?_
        refine k_aload (pc1 := 42) dX5_requireNoClashFor_40 rfl rfl ?_
        refine k_get (pc1 := 45) dX5_requireNoClashFor_42 rfl fd_RX5_108 (rp_D hC hi) (v := .ref (gSt γ (oF f m 0) ((i : Nat) : Int))) rfl ?_
        refine k_aload (pc1 := 47) dX5_requireNoClashFor_45 rfl rfl ?_
        refine k_get (pc1 := 50) dX5_requireNoClashFor_47 rfl fd_RX5_190 (rp_D hC hi) (v := .ref (gRm γ (dF f m ((i : Nat) : Int) 3))) rfl ?_
        refine k_aload (pc1 := 52) dX5_requireNoClashFor_50 rfl rfl ?_
        refine k_callVP dX5_requireNoClashFor_52 rfl lk_RX5_331 o_X5_wouldClash (w_wouldC hl hC (qq := (2 ^ p.toNat)) (by first | omega | exact kmk_lt _ 6 | exact exM_lt ⟨by omega, by omega⟩ (by first | omega | exact kmk_lt _ 6) | assumption) (jo := some (gMt γ (oF f m 0))) (kJo_of hC hm0 hm1) (rm := (dF f m ((i : Nat) : Int) 3)) ⟨by omega, by omega⟩ (rp_S hC hi) ⟨by omega, by omega⟩ ⟨by omega, by omega⟩ ⟨by omega, by omega⟩ (lo := some (gDt γ (oF f m 0) ((i : Nat) : Int))) (kLv_of hC hi)) (as := [.int (iI (((2 ^ p.toNat) : Nat) : Int)), .ref (gMt γ (oF f m 0)), .ref (gSt γ (oF f m 0) ((i : Nat) : Int)), .ref (gRm γ (dF f m ((i : Nat) : Int) 3)), .ref (gDt γ (oF f m 0) ((i : Nat) : Int))]) (rp_P hC) rfl rfl rfl rfl (by decide) (by decide) (k8 rfl) ?_
        refine k_if_eq (a := kB (wcF f m ((i : Nat) : Int) m (2 ^ p.toNat) (dF f m ((i : Nat) : Int) 3) (dF f m ((i : Nat) : Int) 0) (dF f m ((i : Nat) : Int) 1) (oF f m 2))) dX5_requireNoClashFor_55 rfl (tgt := 75) rfl (kB_r _) (fun c55 : kB (wcF f m ((i : Nat) : Int) m (2 ^ p.toNat) (dF f m ((i : Nat) : Int) 3) (dF f m ((i : Nat) : Int) 0) (dF f m ((i : Nat) : Int) 1) (oF f m 2)) = 0 => ?_) (fun c55 : kB (wcF f m ((i : Nat) : Int) m (2 ^ p.toNat) (dF f m ((i : Nat) : Int) 3) (dF f m ((i : Nat) : Int) 0) (dF f m ((i : Nat) : Int) 1) (oF f m 2)) ≠ 0 => ?_)
        · replace c55 : ¬(wcF f m ((i : Nat) : Int) m (2 ^ p.toNat) (dF f m ((i : Nat) : Int) 3) (dF f m ((i : Nat) : Int) 0) (dF f m ((i : Nat) : Int) 1) (oF f m 2)) := kB_z.mp c55
          refine k_iinc (a := ((i : Nat) : Int)) (pc1 := 78) dX5_requireNoClashFor_75 rfl rfl (by decide) (k_loc (L' := [some (.ref pl), some (.int (iI p)), some (.ref (gMt γ (oF f m 0))), some (.int (iI (((i : Nat) : Int) + 1))), some (.ref (gDt γ (oF f m 0) ((i : Nat) : Int)))]) rfl ?_)
          refine k_goto dX5_requireNoClashFor_78 (tgt := 2) rfl ?_
          refine k_forget 4 (k_loc (L' := [some (.ref pl), some (.int (iI p)), some (.ref (gMt γ (oF f m 0))), some (.int (iI (((i : Nat) : Int) + 1))), none]) rfl ?_)
          exact ih2 _ (by omega) (i + 1) rfl (by omega) (fun j hj => if e : j = i then (fun z => by subst e; first | (have z1 : dF f m ((j : Nat) : Int) 2 = 0 := z.1; omega) | exact c55 ((wc_cl hp).mpr z.2)) else hJ j (by omega))
        · replace c55 : (wcF f m ((i : Nat) : Int) m (2 ^ p.toNat) (dF f m ((i : Nat) : Int) 3) (dF f m ((i : Nat) : Int) 0) (dF f m ((i : Nat) : Int) 1) (oF f m 2)) := kB_nz.mp c55
          have ek : ko4 f m p = ((i : Nat) : Int) := kls_at (n := (oF f m 3).toNat) (by omega) ⟨show dF f m ((i : Nat) : Int) 2 = 0 by omega, (wc_cl hp).mp c55⟩ hJ
          refine k_aload_n (pc1 := 59) dX5_requireNoClashFor_58 rfl rfl ?_
          refine k_iconst (pc1 := 60) dX5_requireNoClashFor_59 rfl ?_
          refine k_iload_n (pc1 := 61) dX5_requireNoClashFor_60 rfl rfl ?_
          refine k_callV dX5_requireNoClashFor_61 rfl lk_RX5_314 o_X5_noteRefusal (as := [.int (iI 4), .int (iI ((i : Nat) : Int))]) rfl rfl (rp_P hC) rfl rfl (w_noteR hl hC (a := 4) (b := ((i : Nat) : Int)) ⟨by omega, by omega⟩ ⟨by omega, by omega⟩) (by decide) (by decide) (Nat.zero_le _) (Nat.zero_le _) (k8 rfl) (fun v h1 hv => ?_) (fun E h9 z => z.elim)
          obtain ⟨hv1, ⟨A1, hC1⟩, hfr1⟩ := hv
          subst hv1
          refine k_st (st' := []) rfl ?_
          exact k_throwW 67 68 71 74 rfl dX5_requireNoClashFor_64 dX5_requireNoClashFor_67 dX5_requireNoClashFor_68 dX5_requireNoClashFor_71 dX5_requireNoClashFor_74 rfl rfl rfl rfl rfl (by decide) (by decide) cl_RX5_318 ini_UnsupportedOperationException (text := "the person would have a clash") (by decide +kernel) at_RX5_322 (k8 rfl) (by decide) (by decide) ⟨rfl, A1, by rw [ek]; exact hC1, hfr1⟩
  exact hloop2 _ 0 rfl (by omega) (fun j hj => absurd hj (by omega))
theorem w_ncY {l : Launch} {G : kG} {h : kAH} (hl : l.stackTraces = false) {pl : Nat} {γ : kGh} {A : kAb} {f : Nat → Int} (hC : kRp G h pl γ A f) {m : Int} (hm0 : 0 ≤ m) (hm1 : m < f 1) {p : Int} (hp : 0 ≤ p ∧ p < 6) (hc : ¬ 0 ≤ ko4 f m p) : kC l G m_X5_requireNoClashFor 5 0 0 [.ref pl, .int (iI p), .ref (gMt γ (oF f m 0))] h (fun v h' => v = none ∧ h' = h) kNo := by
  refine kC_of hl rfl rfl (Nat.le_of_ble_eq_true rfl) (L := [some (.ref pl), some (.int (iI p)), some (.ref (gMt γ (oF f m 0))), none, none]) rfl ?_
  have hmm := kWf_m hC.2.2 (m := m) hm0 hm1
  have hmx := rp_Mx hC (m := m) hm0 hm1
  obtain ⟨arE, cE, hMd⟩ := rp_Md hC (m := m) hm0 hm1
  obtain ⟨mcE, hMe⟩ := hMd.1
  have h8 := kWf_cnt hC.2.2
  refine k_iconst (pc1 := 1) dX5_requireNoClashFor_0 rfl ?_
  refine k_istore_n (pc1 := 2) dX5_requireNoClashFor_1 rfl (by decide) (k_loc (L' := [some (.ref pl), some (.int (iI p)), some (.ref (gMt γ (oF f m 0))), some (.int (iI 0)), none]) rfl ?_)
  have hloop2 : ∀ (zz : Nat) (i : Nat), zz = (oF f m 3 - ((i : Nat) : Int)).toNat → (((i : Nat) : Int) ≤ oF f m 3) → (∀ j : Nat, j < i → ¬ (fun d => onF f m (d : Int) ∧ clF f m (d : Int) p) j) → kW l G m_X5_requireNoClashFor 5 (fun v h' => v = none ∧ h' = h) kNo 0 0 2 [some (.ref pl), some (.int (iI p)), some (.ref (gMt γ (oF f m 0))), some (.int (iI ((i : Nat) : Int))), none] [] h := by
    intro zz
    induction zz using Nat.strongRecOn with
    | ind zz ih2 =>
    intro i hr2 hi9 hJ
    refine k_iload_n (pc1 := 3) dX5_requireNoClashFor_2 rfl rfl ?_
    refine k_aload_n (pc1 := 4) dX5_requireNoClashFor_3 rfl rfl ?_
    refine k_get (pc1 := 7) dX5_requireNoClashFor_4 rfl fd_RX5_101 (rp_M hC (m := m) hm0 hm1) (v := .ref (gMd γ (oF f m 0))) rfl ?_
    refine k_callVP dX5_requireNoClashFor_7 rfl lk_RX5_65 o_Jx4a65c_size_8abf5 (w_lsz hl hMd) (as := []) hMe rfl rfl rfl rfl (by decide) (by decide) (k8 rfl) ?_
    refine k_val (v' := .int (iI (oF f m 3))) (congrArg (fun z : Int => Value.int (iI z)) (by rw [List.length_map, List.length_range]; omega)) ?_
    refine k_icmp_ge (a := ((i : Nat) : Int)) (b := (oF f m 3)) dX5_requireNoClashFor_10 rfl (tgt := 81) rfl (by omega) (by omega) (fun c10 : (oF f m 3) ≤ ((i : Nat) : Int) => ?_) (fun c10 : ((i : Nat) : Int) < (oF f m 3) => ?_)
    · skip
      have ek : ko4 f m p = -1 := kls_none (fun j hj => hJ j (by omega))
      exact k_vret dX5_requireNoClashFor_81 rfl ⟨rfl, rfl⟩
    · skip
      have hi : inP f m ((i : Nat) : Int) := ⟨hm0, hm1, by omega, by omega⟩
      have hmd := kWf_d hC.2.2 hi.1 hi.2.1 hi.2.2.1 hi.2.2.2
      have hrd := kWf_room hC.2.2 (r := dF f m ((i : Nat) : Int) 3) (by omega) (by omega)
      have hkp := kpo_rng (ppF f m) 6
      refine k_aload_n (pc1 := 14) dX5_requireNoClashFor_13 rfl rfl ?_
      refine k_get (pc1 := 17) dX5_requireNoClashFor_14 rfl fd_RX5_101 (rp_M hC hi.1 hi.2.1) (v := .ref (gMd γ (oF f m 0))) rfl ?_
      refine k_iload_n (pc1 := 18) dX5_requireNoClashFor_17 rfl rfl ?_
      refine k_callVP dX5_requireNoClashFor_18 rfl lk_RX5_131 o_Jx4a65c_get_915e3 (w_lgt hl hMd ((i : Nat) : Int) ⟨by omega, by rw [List.length_map, List.length_range]; omega⟩ (by rw [List.getElem?_map, List.getElem?_range (by omega)]; show some (gDt γ (oF f m 0) ((Int.toNat ((i : Nat) : Int) : Nat) : Int)) = _; rw [Int.toNat_of_nonneg (by omega)])) (as := [.int (iI ((i : Nat) : Int))]) hMe rfl rfl rfl rfl (by decide) (by decide) (k8 rfl) ?_
      refine k_cast (r := (RX0, TX0, 4)) (pc1 := 24) dX5_requireNoClashFor_21 rfl cl_RX5_109 (rp_D hC hi) rfl ?_
      refine k_astore (pc1 := 26) dX5_requireNoClashFor_24 rfl (by decide) (k_loc (L' := [some (.ref pl), some (.int (iI p)), some (.ref (gMt γ (oF f m 0))), some (.int (iI ((i : Nat) : Int))), some (.ref (gDt γ (oF f m 0) ((i : Nat) : Int)))]) rfl ?_)
      refine k_aload (pc1 := 28) dX5_requireNoClashFor_26 rfl rfl ?_
      refine k_get (pc1 := 31) dX5_requireNoClashFor_28 rfl fd_RX5_175 (rp_D hC hi) (v := .int (iI (dF f m ((i : Nat) : Int) 2))) rfl ?_
      refine k_if_ne (a := (dF f m ((i : Nat) : Int) 2)) dX5_requireNoClashFor_31 rfl (tgt := 75) rfl (by omega) (fun c31 : (dF f m ((i : Nat) : Int) 2) ≠ 0 => ?_) (fun c31 : (dF f m ((i : Nat) : Int) 2) = 0 => ?_)
      · skip
        refine k_iinc (a := ((i : Nat) : Int)) (pc1 := 78) dX5_requireNoClashFor_75 rfl rfl (by decide) (k_loc (L' := [some (.ref pl), some (.int (iI p)), some (.ref (gMt γ (oF f m 0))), some (.int (iI (((i : Nat) : Int) + 1))), some (.ref (gDt γ (oF f m 0) ((i : Nat) : Int)))]) rfl ?_)
        refine k_goto dX5_requireNoClashFor_78 (tgt := 2) rfl ?_
        refine k_forget 4 (k_loc (L' := [some (.ref pl), some (.int (iI p)), some (.ref (gMt γ (oF f m 0))), some (.int (iI (((i : Nat) : Int) + 1))), none]) rfl ?_)
        exact ih2 _ (by omega) (i + 1) rfl (by omega) (fun j hj => if e : j = i then (fun z => by subst e; first | (have z1 : dF f m ((j : Nat) : Int) 2 = 0 := z.1; omega) | exact c55 ((wc_cl hp).mpr z.2)) else hJ j (by omega))
      · skip
        refine k_aload_n (pc1 := 35) dX5_requireNoClashFor_34 rfl rfl ?_
        refine k_iload_n (pc1 := 36) dX5_requireNoClashFor_35 rfl rfl ?_
        have hqp : 2 ^ p.toNat < 64 := k2p_lt (by omega)
        refine k_callSP dX5_requireNoClashFor_36 rfl lk_RX5_78 o_X5_bitOf (w_X5_bitOf hl p ⟨by omega, by omega⟩) (as := [.int (iI p)]) rfl rfl rfl (by decide) (by decide) (k8 rfl) ?_
        refine k_aload_n (pc1 := 40) dX5_requireNoClashFor_39 rfl rfl ?_
        refine k_aload (pc1 := 42) dX5_requireNoClashFor_40 rfl rfl ?_
        refine k_get (pc1 := 45) dX5_requireNoClashFor_42 rfl fd_RX5_108 (rp_D hC hi) (v := .ref (gSt γ (oF f m 0) ((i : Nat) : Int))) rfl ?_
        refine k_aload (pc1 := 47) dX5_requireNoClashFor_45 rfl rfl ?_
        refine k_get (pc1 := 50) dX5_requireNoClashFor_47 rfl fd_RX5_190 (rp_D hC hi) (v := .ref (gRm γ (dF f m ((i : Nat) : Int) 3))) rfl ?_
        refine k_aload (pc1 := 52) dX5_requireNoClashFor_50 rfl rfl ?_
        refine k_callVP dX5_requireNoClashFor_52 rfl lk_RX5_331 o_X5_wouldClash (w_wouldC hl hC (qq := (2 ^ p.toNat)) (by first | omega | exact kmk_lt _ 6 | exact exM_lt ⟨by omega, by omega⟩ (by first | omega | exact kmk_lt _ 6) | assumption) (jo := some (gMt γ (oF f m 0))) (kJo_of hC hm0 hm1) (rm := (dF f m ((i : Nat) : Int) 3)) ⟨by omega, by omega⟩ (rp_S hC hi) ⟨by omega, by omega⟩ ⟨by omega, by omega⟩ ⟨by omega, by omega⟩ (lo := some (gDt γ (oF f m 0) ((i : Nat) : Int))) (kLv_of hC hi)) (as := [.int (iI (((2 ^ p.toNat) : Nat) : Int)), .ref (gMt γ (oF f m 0)), .ref (gSt γ (oF f m 0) ((i : Nat) : Int)), .ref (gRm γ (dF f m ((i : Nat) : Int) 3)), .ref (gDt γ (oF f m 0) ((i : Nat) : Int))]) (rp_P hC) rfl rfl rfl rfl (by decide) (by decide) (k8 rfl) ?_
        refine k_if_eq (a := kB (wcF f m ((i : Nat) : Int) m (2 ^ p.toNat) (dF f m ((i : Nat) : Int) 3) (dF f m ((i : Nat) : Int) 0) (dF f m ((i : Nat) : Int) 1) (oF f m 2))) dX5_requireNoClashFor_55 rfl (tgt := 75) rfl (kB_r _) (fun c55 : kB (wcF f m ((i : Nat) : Int) m (2 ^ p.toNat) (dF f m ((i : Nat) : Int) 3) (dF f m ((i : Nat) : Int) 0) (dF f m ((i : Nat) : Int) 1) (oF f m 2)) = 0 => ?_) (fun c55 : kB (wcF f m ((i : Nat) : Int) m (2 ^ p.toNat) (dF f m ((i : Nat) : Int) 3) (dF f m ((i : Nat) : Int) 0) (dF f m ((i : Nat) : Int) 1) (oF f m 2)) ≠ 0 => ?_)
        · replace c55 : ¬(wcF f m ((i : Nat) : Int) m (2 ^ p.toNat) (dF f m ((i : Nat) : Int) 3) (dF f m ((i : Nat) : Int) 0) (dF f m ((i : Nat) : Int) 1) (oF f m 2)) := kB_z.mp c55
          refine k_iinc (a := ((i : Nat) : Int)) (pc1 := 78) dX5_requireNoClashFor_75 rfl rfl (by decide) (k_loc (L' := [some (.ref pl), some (.int (iI p)), some (.ref (gMt γ (oF f m 0))), some (.int (iI (((i : Nat) : Int) + 1))), some (.ref (gDt γ (oF f m 0) ((i : Nat) : Int)))]) rfl ?_)
          refine k_goto dX5_requireNoClashFor_78 (tgt := 2) rfl ?_
          refine k_forget 4 (k_loc (L' := [some (.ref pl), some (.int (iI p)), some (.ref (gMt γ (oF f m 0))), some (.int (iI (((i : Nat) : Int) + 1))), none]) rfl ?_)
          exact ih2 _ (by omega) (i + 1) rfl (by omega) (fun j hj => if e : j = i then (fun z => by subst e; first | (have z1 : dF f m ((j : Nat) : Int) 2 = 0 := z.1; omega) | exact c55 ((wc_cl hp).mpr z.2)) else hJ j (by omega))
        · replace c55 : (wcF f m ((i : Nat) : Int) m (2 ^ p.toNat) (dF f m ((i : Nat) : Int) 3) (dF f m ((i : Nat) : Int) 0) (dF f m ((i : Nat) : Int) 1) (oF f m 2)) := kB_nz.mp c55
          have ek : ko4 f m p = ((i : Nat) : Int) := kls_at (n := (oF f m 3).toNat) (by omega) ⟨show dF f m ((i : Nat) : Int) 2 = 0 by omega, (wc_cl hp).mp c55⟩ hJ
          exfalso; omega
  exact hloop2 _ 0 rfl (by omega) (fun j hj => absurd hj (by omega))
