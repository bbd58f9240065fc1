/-! ===== the class: remove, walked ===== -/
theorem rv_step {A : kAb} {n k9 : Int} {i : Nat} {dx : Int → List (Int × Int)} {xs1 : List (Int × Int)} (hx : ∀ k : Int, 0 ≤ k → k < 28 → (dx k).Sublist (aDx A k) ∧ ∀ q : Int × Int, q ∈ dx k ↔ q ∈ aDx A k ∧ ¬ (q.1 = n ∧ q.2 < (i : Int)))
    (hs : xs1.Sublist (dx k9)) (h1 : ∀ q : Int × Int, q ∈ xs1 ↔ q ∈ dx k9 ∧ q ≠ (n, (i : Int))) (hmem : ∀ k : Int, 0 ≤ k → k < 28 → (n, (i : Int)) ∈ aDx A k → k = k9) :
    ∀ k : Int, 0 ≤ k → k < 28 → (if k = k9 then xs1 else dx k).Sublist (aDx A k) ∧ ∀ q : Int × Int, q ∈ (if k = k9 then xs1 else dx k) ↔ q ∈ aDx A k ∧ ¬ (q.1 = n ∧ q.2 < ((i + 1 : Nat) : Int)) := by
  intro k k0 k1
  obtain ⟨u1, u2⟩ := hx k k0 k1
  have split1 : ∀ q : Int × Int, ¬ (q.1 = n ∧ q.2 < ((i + 1 : Nat) : Int)) ↔ ¬ (q.1 = n ∧ q.2 < (i : Int)) ∧ q ≠ (n, (i : Int)) := fun q => by
    constructor
    · intro z
      exact ⟨fun y => z ⟨y.1, by have := y.2; omega⟩, fun y => z (by rw [y]; exact ⟨rfl, by show (i : Int) < ((i + 1 : Nat) : Int); omega⟩)⟩
    · rintro ⟨z1, z2⟩ ⟨y1, y2⟩
      by_cases c : q.2 < (i : Int)
      · exact z1 ⟨y1, c⟩
      · exact z2 (Prod.ext y1 (by show q.2 = (i : Int); omega))
  by_cases ck : k = k9
  · rw [if_pos ck]
    rw [← ck] at hs h1
    exact ⟨hs.trans u1, fun q => by rw [h1, u2, split1, and_assoc]⟩
  · rw [if_neg ck]
    refine ⟨u1, fun q => ?_⟩
    rw [u2, split1]
    constructor
    · rintro ⟨y1, y2⟩
      exact ⟨y1, y2, fun e => ck (hmem k k0 k1 (by rw [← e]; exact y1))⟩
    · rintro ⟨y1, y2, -⟩
      exact ⟨y1, y2⟩
theorem w_X5_remove {l : Launch} {G : kG} {h : kAH} (hl : l.stackTraces = false) {pl : Nat} {γ : kGh} {A : kAb} {f : Nat → Int} (hC : kRp G h pl γ A f) {n : Int} (rn : -2147483648 ≤ n ∧ n < 2147483648) : kC l G m_X5_remove 6 1 6 [.ref pl, .int (iI n)] h (kOy G pl γ h (Tremove f n)) (kOn G pl γ h (Tremove f n) ["", "java/util/NoSuchElementException"]) := by
  have h8 := kWf_cnt hC.2.2
  refine kC_of hl rfl rfl (Nat.le_of_ble_eq_true rfl) (L := [some (.ref pl), some (.int (iI n)), none, none, none]) rfl ?_
  refine k_aload_n (pc1 := 1) dX5_remove_0 rfl rfl ?_
  refine k_iload_n (pc1 := 2) dX5_remove_1 rfl rfl ?_
  by_cases hn2 : atF f n < 0
  · skip
    refine k_callV dX5_remove_2 rfl lk_RX5_128 o_X5_rankOf (as := [.int (iI n)]) rfl rfl (rp_P hC) rfl rfl (w_rkN hl hC (by omega) hn2) (by decide) (by decide) (by decide) (by decide) (k8 rfl) (fun v h9 z => z.elim) (fun E h9 z => kx_out rfl ?_)
    obtain ⟨hv1, hv2⟩ := z
    subst hv1
    rw [hv2]
    exact (kOn_mk (c := 1) (v := 0) (f' := f) (by first | exact kI_t (by omega) | exact kI_f (by omega)) (by decide) rfl (kSt_rf hC))
  · skip
    refine k_callVP dX5_remove_2 rfl lk_RX5_128 o_X5_rankOf (w_rkY hl hC (by omega) hn2) (as := [.int (iI n)]) (rp_P hC) rfl rfl rfl rfl (by decide) (by decide) (k8 rfl) ?_
    have hat := atF_r (f := f) (n := n) h8.1
    obtain ⟨arM, cM, hMl⟩ := rp_Ml hC
    obtain ⟨mcM, hMa⟩ := hMl.1
    have h8 := kWf_cnt hC.2.2
    have hmm := kWf_m hC.2.2 (m := (atF f n)) (by omega) (by omega)
    have hmx := rp_Mx hC (m := (atF f n)) (by omega) (by omega)
    obtain ⟨arE, cE, hMd⟩ := rp_Md hC (m := (atF f n)) (by omega) (by omega)
    obtain ⟨mcE, hMe⟩ := hMd.1
    obtain ⟨hlM, -, -, -, -, hmn⟩ := hC.2.1.2.2.2.1 (atF f n) (by omega) (by omega)
    refine k_istore_n (pc1 := 6) dX5_remove_5 rfl (by decide) (k_loc (L' := [some (.ref pl), some (.int (iI n)), some (.int (iI (atF f n))), none, none]) rfl ?_)
    refine k_aload_n (pc1 := 7) dX5_remove_6 rfl rfl ?_
    refine k_get (pc1 := 10) dX5_remove_7 rfl fd_RX5_28 (rp_P hC) (v := .ref (gMl γ)) rfl ?_
    refine k_iload_n (pc1 := 11) dX5_remove_10 rfl rfl ?_
    refine k_callVP dX5_remove_11 rfl lk_RX5_131 o_Jx4a65c_get_915e3 (w_lgt hl hMl (atF f n) ⟨by omega, by rw [List.length_map, List.length_range]; omega⟩ (by rw [List.getElem?_map, List.getElem?_range (by omega)]; show some (gMt γ (oF f ((Int.toNat (atF f n) : Nat) : Int) 0)) = _; rw [Int.toNat_of_nonneg (by omega)])) (as := [.int (iI (atF f n))]) hMa rfl rfl rfl rfl (by decide) (by decide) (k8 rfl) ?_
    refine k_cast (r := (RX2, TX2, 6)) (pc1 := 17) dX5_remove_14 rfl cl_RX5_76 (rp_M hC (m := (atF f n)) (by omega) (by omega)) rfl ?_
    refine k_astore_n (pc1 := 18) dX5_remove_17 rfl (by decide) (k_loc (L' := [some (.ref pl), some (.int (iI n)), some (.int (iI (atF f n))), some (.ref (gMt γ (oF f (atF f n) 0))), none]) rfl ?_)
    refine k_iconst (pc1 := 19) dX5_remove_18 rfl ?_
    refine k_istore (pc1 := 21) dX5_remove_19 rfl (by decide) (k_loc (L' := [some (.ref pl), some (.int (iI n)), some (.int (iI (atF f n))), some (.ref (gMt γ (oF f (atF f n) 0))), some (.int (iI 0))]) rfl ?_)
    have hloop21 : ∀ (zz : Nat) (i : Nat) (h5 : kAH) (ow5 : Nat → Nat × Nat) (dx : Int → List (Int × Int)), zz = (oF f (atF f n) 3 - ((i : Nat) : Int)).toNat → (((i : Nat) : Int) ≤ oF f (atF f n) 3) → (kRA G h5 pl (ow5, γ.2) (xDx A dx)) → (∀ k : Int, 0 ≤ k → k < 28 → (dx k).Sublist (aDx A k) ∧ ∀ q : Int × Int, q ∈ dx k ↔ q ∈ aDx A k ∧ ¬ (q.1 = (oF f (atF f n) 0) ∧ q.2 < ((i : Nat) : Int))) → (kUt γ ow5 h h5) → kW l G m_X5_remove 6 (kOy G pl γ h (Tremove f n)) (kOn G pl γ h (Tremove f n) ["", "java/util/NoSuchElementException"]) 1 6 21 [some (.ref pl), some (.int (iI n)), some (.int (iI (atF f n))), some (.ref (gMt γ (oF f (atF f n) 0))), some (.int (iI ((i : Nat) : Int)))] [] h5 := by
      intro zz
      induction zz using Nat.strongRecOn with
      | ind zz ih21 =>
      intro i h5 ow5 dx hr21 hi9 hR5 hx5 hu5
      obtain ⟨-, ⟨hM5, -⟩, -, arE5, cE5, hMd5, -⟩ := hR5.2.2.2.2.2.2.1 (oF f (atF f n) 0) hlM
      replace hM5 : h5 (gMt γ (oF f (atF f n) 0)) = some (kMc γ A (oF f (atF f n) 0)) := hM5
      replace hMd5 : kLs G h5 (gMd γ (oF f (atF f n) 0)) arE5 cE5 ((List.range (aMn A (oF f (atF f n) 0))).map fun (d : Nat) => gDt γ (oF f (atF f n) 0) (d : Int)) := hMd5
      rw [show aMn A (oF f (atF f n) 0) = (oF f (atF f n) 3).toNat by omega] at hMd5
      obtain ⟨mcE5, hMe5⟩ := hMd5.1
      refine k_iload (pc1 := 23) dX5_remove_21 rfl rfl ?_
      refine k_aload_n (pc1 := 24) dX5_remove_23 rfl rfl ?_
      refine k_get (pc1 := 27) dX5_remove_24 rfl fd_RX5_101 hM5 (v := .ref (gMd γ (oF f (atF f n) 0))) rfl ?_
      refine k_callVP dX5_remove_27 rfl lk_RX5_65 o_Jx4a65c_size_8abf5 (w_lsz hl hMd5) (as := []) hMe5 rfl rfl rfl rfl (by decide) (by decide) (k8 rfl) ?_
      refine k_val (v' := .int (iI (oF f (atF f n) 3))) (congrArg (fun z : Int => Value.int (iI z)) (by rw [List.length_map, List.length_range]; omega)) ?_
      refine k_icmp_ge (a := ((i : Nat) : Int)) (b := (oF f (atF f n) 3)) dX5_remove_30 rfl (tgt := 55) rfl (by omega) (by omega) (fun c30 : (oF f (atF f n) 3) ≤ ((i : Nat) : Int) => ?_) (fun c30 : ((i : Nat) : Int) < (oF f (atF f n) 3) => ?_)
      · skip
        refine k_aload_n (pc1 := 56) dX5_remove_55 rfl rfl ?_
        refine k_get (pc1 := 59) dX5_remove_56 rfl fd_RX5_28 hR5.1.1 (v := .ref (gMl γ)) rfl ?_
        refine k_iload_n (pc1 := 60) dX5_remove_59 rfl rfl ?_
        have hae := hC.2.1.2.2.1
        obtain ⟨-, arM5, cM5, hMl5, harM⟩ := hR5.2.2.2.2.2.1
        replace hMl5 : kLs G h5 (gMl γ) arM5 cM5 ((aMl A).map (gMt γ)) := hMl5
        obtain ⟨mcM5, hMa5⟩ := hMl5.1
        refine k_ged (fun hed0 => ?_)
        have har2 : ow5 arM5 = (13, 0) ∨ h5 arM5 = none := by
          rcases harM with ⟨y, -, -⟩ | y
          · exact Or.inr (by rw [y]; exact hed0)
          · exact Or.inl y
        have hEs : ∀ y ∈ (aMl A).map (gMt γ), ∃ vs : List Value, h5 y = some (.inr (6, vs)) := fun y hy => by
          obtain ⟨q, hq, rfl⟩ := List.mem_map.mp hy
          rw [hae] at hq
          obtain ⟨j, hj, rfl⟩ := List.mem_map.mp hq
          have hj2 := List.mem_range.mp hj
          exact ⟨_, (hR5.2.2.2.2.2.2.1 _ (hC.2.1.2.2.2.1 (j : Int) (by omega) (by omega)).1).2.1.1⟩
        have hat2 : (((atF f n).toNat : Nat) : Int) = atF f n := Int.toNat_of_nonneg (by omega)
        have hml : (aMl A).length = (f 1).toNat := by rw [hae, List.length_map, List.length_range]
        have hcon := w_lrem hl hMl5 (i := (atF f n).toNat) (by rw [List.length_map, hml]; omega) (ci := 6) rfl (by decide) (by decide) hEs (x := gMt γ (oF f (atF f n) 0)) (by rw [hae, List.getElem?_map, List.getElem?_map, List.getElem?_range (by omega)]; show some (gMt γ (oF f (((atF f n).toNat : Nat) : Int) 0)) = _; rw [hat2])
        rw [hat2] at hcon
        refine k_callV dX5_remove_60 rfl lk_RX5_139 o_Jx4a65c_remove_915e3 (as := [.int (iI (atF f n))]) rfl rfl hMa5 rfl rfl hcon (by decide) (by decide) (Nat.zero_le _) (Nat.zero_le _) (k8 rfl) (fun v h7 hv => ?_) (fun E h9 z => z.elim)
        obtain ⟨hv1, hv2⟩ := hv
        subst hv1
        refine k_st (st' := [.ref (gMt γ (oF f (atF f n) 0))]) rfl ?_
        refine k_ged (fun hed => ?_)
        rw [map_er] at hv2
        obtain ⟨ow6, hR6, hu6⟩ := ra_ML (γ := (ow5, γ.2)) (A := xDx A dx) (ms' := (aMl A).eraseIdx (atF f n).toNat) hR5 hMl5 har2 hed hv2
        have hw : kWf (rvF f (atF f n)) := by
          have z := wf_remove hC.2.2 n
          rw [Tremove, kI_f (by omega)] at z
          exact z
        have hx6 : ∀ k : Int, 0 ≤ k → k < 28 → (dx k).Sublist (aDx A k) ∧ ∀ x : Int × Int, x ∈ dx k ↔ x ∈ aDx A k ∧ ¬ (x.1 = oF f (atF f n) 0 ∧ x.2 < oF f (atF f n) 3) := by
          rw [show oF f (atF f n) 3 = ((i : Nat) : Int) by omega]
          exact hx5
        have hC6 : kRp G h7 pl (ow6, γ.2) (xMl (xDx A dx) ((aMl A).eraseIdx (atF f n).toNat)) (rvF f (atF f n)) := ⟨hR6, rl_rv hC ⟨by omega, by omega⟩ hx6, hw⟩
        have l1 : rvF f (atF f n) 1 = f 1 - 1 := by rw [rv_lo (by omega) (by decide)]; rfl
        obtain ⟨arN, cN, hMl6⟩ := rp_Ml hC6
        obtain ⟨mcN, hMa6⟩ := hMl6.1
        refine k_pop (pc1 := 64) dX5_remove_63 rfl rfl ?_
        refine k_aload_n (pc1 := 65) dX5_remove_64 rfl rfl ?_
        refine k_get (pc1 := 68) dX5_remove_65 rfl fd_RX5_28 hC6.1.1.1 (v := .ref (gMl γ)) rfl ?_
        refine k_callVP dX5_remove_68 rfl lk_RX5_65 o_Jx4a65c_size_8abf5 (w_lsz hl hMl6) (as := []) hMa6 rfl rfl rfl rfl (by decide) (by decide) (k8 rfl) ?_
        refine k_val (v' := .int (iI (f 1 - 1))) (congrArg (fun z : Int => Value.int (iI z)) (by rw [List.length_map, List.length_range, l1]; omega)) ?_
        exact k_iret dX5_remove_71 rfl rfl (kOy_mk (v := f 1 - 1) (f' := rvF f (atF f n)) (by exact kI_f (by omega)) ⟨(ow6, γ.2), _, hC6, fun b e g1 g2 => by have u := hu5 b e g1 g2; exact hu6 b e u.1 u.2⟩)
      · skip
        have hi : inP f (atF f n) ((i : Nat) : Int) := ⟨by omega, by omega, by omega, by omega⟩
        have hmd := kWf_d hC.2.2 hi.1 hi.2.1 hi.2.2.1 hi.2.2.2
        have hlv := rp_lv hC hi
        have hqd := hC.2.1.2.2.2.2.1 (atF f n) ((i : Nat) : Int) hi
        have hk0 : 0 ≤ aDt A (oF f (atF f n) 0) ((i : Nat) : Int) 0 := by rw [hqd.1]; omega
        have hk1 : aDt A (oF f (atF f n) 0) ((i : Nat) : Int) 0 < 28 := by rw [hqd.1]; omega
        have hD5 : h5 (gDt γ (oF f (atF f n) 0) ((i : Nat) : Int)) = some (kDc (ow5, γ.2) (xDx A dx) (oF f (atF f n) 0) ((i : Nat) : Int)) := (hR5.2.2.2.2.2.2.2.1 (oF f (atF f n) 0) ((i : Nat) : Int) hlM hi.2.2.1 hlv.2.1 hlv.2.2).1.1
        refine k_aload_n (pc1 := 34) dX5_remove_33 rfl rfl ?_
        refine k_aload_n (pc1 := 35) dX5_remove_34 rfl rfl ?_
        refine k_get (pc1 := 38) dX5_remove_35 rfl fd_RX5_101 hM5 (v := .ref (gMd γ (oF f (atF f n) 0))) rfl ?_
        refine k_iload (pc1 := 40) dX5_remove_38 rfl rfl ?_
        refine k_callVP dX5_remove_40 rfl lk_RX5_131 o_Jx4a65c_get_915e3 (w_lgt hl hMd5 ((i : Nat) : Int) ⟨by omega, by rw [List.length_map, List.length_range]; omega⟩ (by rw [List.getElem?_map, List.getElem?_range (by omega)]; show some (gDt γ (oF f (atF f n) 0) ((Int.toNat ((i : Nat) : Int) : Nat) : Int)) = _; rw [Int.toNat_of_nonneg (by omega)])) (as := [.int (iI ((i : Nat) : Int))]) hMe5 rfl rfl rfl rfl (by decide) (by decide) (k8 rfl) ?_
        refine k_cast (r := (RX0, TX0, 4)) (pc1 := 46) dX5_remove_43 rfl cl_RX5_109 hD5 rfl ?_
        have ho5 : kDo (xDx A dx) (aDx (xDx A dx) (aDt (xDx A dx) (oF f (atF f n) 0) ((i : Nat) : Int) 0)) 48 := do_sub (rp_do hC hk0 hk1) (hx5 _ hk0 hk1).1
        refine k_callV dX5_remove_46 rfl lk_RX5_135 o_X5_takeOffItsDay (as := [.ref (gDt γ (oF f (atF f n) 0) ((i : Nat) : Int))]) rfl rfl hR5.1.1 rfl rfl (w_offD hl (γ := (ow5, γ.2)) (A := xDx A dx) hR5 (n := (oF f (atF f n) 0)) (d := ((i : Nat) : Int)) hlM hi.2.2.1 hlv.2.1 hlv.2.2 hk0 hk1 ho5 (by decide)) (by decide) (by decide) (Nat.zero_le _) (Nat.zero_le _) (k8 rfl) (fun v h6 hv => ?_) (fun E h9 z => z.elim)
        obtain ⟨hv1, ow1, xs1, hR1, hs1, hx1, hu1⟩ := hv
        subst hv1
        refine k_st (st' := []) rfl ?_
        refine k_iinc (a := ((i : Nat) : Int)) (pc1 := 52) dX5_remove_49 rfl rfl (by decide) (k_loc (L' := [some (.ref pl), some (.int (iI n)), some (.int (iI (atF f n))), some (.ref (gMt γ (oF f (atF f n) 0))), some (.int (iI (((i : Nat) : Int) + 1)))]) rfl ?_)
        refine k_goto dX5_remove_52 (tgt := 21) rfl ?_
        have hmem : ∀ k : Int, 0 ≤ k → k < 28 → ((oF f (atF f n) 0), ((i : Nat) : Int)) ∈ aDx A k → k = aDt A (oF f (atF f n) 0) ((i : Nat) : Int) 0 := fun k k0 k1 y => by
          obtain ⟨m2, w1, w2, w3, w4⟩ := ((hC.2.1.2.2.2.2.2 k k0 k1).2.2 _).mp y
          have em := rp_num hC w1.1 w1.2.1 hi.1 hi.2.1 w2.symm
          rw [hqd.1, ← w4, em]
        exact ih21 _ (by omega) (i + 1) h6 ow1 (fun j => if j = aDt A (oF f (atF f n) 0) ((i : Nat) : Int) 0 then xs1 else dx j) rfl (by omega) hR1 (rv_step hx5 hs1 hx1 hmem) (fun b e g1 g2 => by have u := hu5 b e g1 g2; exact hu1 b e u.1 u.2)
    exact hloop21 _ 0 h γ.1 (aDx A) rfl (by omega) hC.1 (fun k k0 k1 => ⟨List.Sublist.refl _, fun q => ⟨fun y => ⟨y, fun z => by
        obtain ⟨m2, w1, -⟩ := ((hC.2.1.2.2.2.2.2 k k0 k1).2.2 q).mp y
        have z2 := z.2
        have z3 := w1.2.2.1
        omega⟩, fun y => y.1⟩⟩) (fun b e g1 g2 => ⟨g1, g2⟩)
