/-! ===== the class: planDates, walked: the walk ===== -/
section KPF
variable {G : kG} {h h' : kAH} {pl : Nat} {γ γ' : kGh} {A A' : kAb} {f : Nat → Int} {n : Int}
theorem pi_do {K : Nat → Int} {c : Nat} {ss qs : List Nat} {h2 h3 : kAH} {i : Nat} {ow3 : Nat → Nat × Nat} {dx : Int → List (Int × Int)} (hpi : kPi G pl γ γ' A A' n c K ss qs h2 i h3 ow3 dx) {k : Int} (k0 : 0 ≤ k) (k1 : k < 28) : kDo (xMx A' n (c + i + 1) dx) (dx k) (48 + i) := by
  have u3 := do_mn (n := n) (v := c + i + 1) (dx := dx) (hpi.2.1 k k0 k1).1 (by show (if n = n then c + i else aMn A' n) ≤ c + i + 1; rw [if_pos rfl]; omega)
  rw [show xMx (xMx A' n (c + i) dx) n (c + i + 1) dx = xMx A' n (c + i + 1) dx from xMx_2] at u3
  exact u3
theorem pi_new {K : Nat → Int} {ss qs : List Nat} {h2 h3 : kAH} {i : Nat} {ow3 : Nat → Nat × Nat} {dx : Int → List (Int × Int)} (hpi : kPi G pl γ γ' A A' n (aMn A n) K ss qs h2 i h3 ow3 dx) (q : kRp G h pl γ A f) {k : Int} (k0 : 0 ≤ k) (k1 : k < 28) : (n, ((aMn A n : Nat) : Int) + (i : Int)) ∉ dx k := fun y => by
  rcases ((hpi.2.1 k k0 k1).2 _).mp y with y | ⟨j, y1, y2, -⟩
  · have := ((rp_do q k0 k1).2.2.2 _ y).2.2.1
    have z : ((aMn A n : Nat) : Int) + (i : Int) < ((aMn A n : Nat) : Int) := this
    omega
  · have := congrArg Prod.snd y2
    have z : ((aMn A n : Nat) : Int) + (i : Int) = ((aMn A n : Nat) : Int) + (j : Int) := this
    omega
end KPF
theorem w_planD {l : Launch} {G : kG} {h : kAH} (hl : l.stackTraces = false) {pl : Nat} {γ : kGh} {A : kAb} {f : Nat → Int} (hC : kRp G h pl γ A f) {n : Int} (hn : aLv A n) (hh : 0 ≤ aHs A n ∧ aHs A n < 6) (ha : aAk A n < 64) (hy : aYs A n < 64) (hno : aNo A n < 64) {sl ar0 c0 : Nat} {ss : List Nat} (hSl : kLs G h sl ar0 c0 ss) (hc6 : aMn A n + ss.length ≤ 6) {t ln : Int} (ht : 0 ≤ t ∧ t < 16) (hln : 1 ≤ ln ∧ ln ≤ 6) {K : Nat → Int} (hK : ∀ i : Nat, i < ss.length → 0 ≤ K i ∧ K i < 28) (hss : ∀ (i x : Nat), ss[i]? = some x → h x = some (.inr (8, [.int (iI (K i)), .int (iI t), .int (iI ln)])) ∧ gOw γ x = (0, 0)) (hnd : ss.Nodup) : kC l G m_X5_planDates 9 26 3640 [.ref pl, .ref (gMt γ n), .ref sl] h (fun v h' => v = none ∧ (∀ j : Nat, j < ss.length → ¬ 0 ≤ (bsyF f (-1) (-1) (exM (aHs A n) (aAk A n) (aNo A n)) (K j) t ln)) ∧ (∀ j : Nat, j < ss.length → 0 ≤ (smlF f (-1) (-1) (exM (aHs A n) (aAk A n) (aNo A n)) (K j) t ln)) ∧ ∃ (dg sg : Int → Int → Nat) (ow3 : Nat → Nat × Nat) (dx : Int → List (Int × Int)), kRA G h' pl (xDS γ ow3 dg sg) (xMx (xDD A (kAdt A n (aMn A n) ss.length K (fun j : Nat => smlF f (-1) (-1) (exM (aHs A n) (aAk A n) (aNo A n)) (K j) t ln) t ln) (aDx A)) n (aMn A n + ss.length) dx) ∧ (∀ k : Int, 0 ≤ k → k < 28 → kDo (xMx (xDD A (kAdt A n (aMn A n) ss.length K (fun j : Nat => smlF f (-1) (-1) (exM (aHs A n) (aAk A n) (aNo A n)) (K j) t ln) t ln) (aDx A)) n (aMn A n + ss.length) dx) (dx k) 60 ∧ ∀ q : Int × Int, q ∈ dx k ↔ q ∈ aDx A k ∨ ∃ j : Nat, j < ss.length ∧ q = (n, ((aMn A n : Nat) : Int) + (j : Int)) ∧ K j = k) ∧ ∀ (b : Nat) (e : va_E), h b = some e → gOw γ b = (0, 0) → b ∉ ss → h' b = some e ∧ ow3 b = (0, 0)) (fun E h' => E = "java/lang/UnsupportedOperationException" ∧ ∃ f' : Nat → Int, ((∃ i : Nat, i < ss.length ∧ 0 ≤ (bsyF f (-1) (-1) (exM (aHs A n) (aAk A n) (aNo A n)) (K i) t ln) ∧ (∀ j : Nat, j < i → ¬ 0 ≤ (bsyF f (-1) (-1) (exM (aHs A n) (aAk A n) (aNo A n)) (K j) t ln)) ∧ f' = rfF f 1 (bsyF f (-1) (-1) (exM (aHs A n) (aAk A n) (aNo A n)) (K i) t ln)) ∨ ((∀ j : Nat, j < ss.length → ¬ 0 ≤ (bsyF f (-1) (-1) (exM (aHs A n) (aAk A n) (aNo A n)) (K j) t ln)) ∧ ∃ i : Nat, i < ss.length ∧ (smlF f (-1) (-1) (exM (aHs A n) (aAk A n) (aNo A n)) (K i) t ln) < 0 ∧ (∀ j : Nat, j < i → 0 ≤ (smlF f (-1) (-1) (exM (aHs A n) (aAk A n) (aNo A n)) (K j) t ln)) ∧ f' = rfF f 2 (((aMn A n : Nat) : Int) + (i : Int)))) ∧ ∃ A' : kAb, kRp G h' pl γ A' f' ∧ ∀ (b : Nat) (e : va_E), h b = some e → b ≠ pl → h' b = some e) := by
  refine kC_of hl rfl rfl (Nat.le_of_ble_eq_true rfl) (L := [some (.ref pl), some (.ref (gMt γ n)), some (.ref sl), none, none, none, none]) rfl ?_
  have hM9 := (hC.1.2.2.2.2.2.2.1 n hn).2.1.1
  obtain ⟨mcS, hSa⟩ := hSl.1
  refine k_ged (fun hed0 => ?_)
  refine k_iconst (pc1 := 1) dX5_planDates_0 rfl ?_
  refine k_istore_n (pc1 := 2) dX5_planDates_1 rfl (by decide) (k_loc (L' := [some (.ref pl), some (.ref (gMt γ n)), some (.ref sl), some (.int (iI 0)), none, none, none]) rfl ?_)
  have hloop2 : ∀ (zz : Nat) (i : Nat), zz = ss.length - i → (i ≤ ss.length) → (∀ j : Nat, j < i → ¬ 0 ≤ (bsyF f (-1) (-1) (exM (aHs A n) (aAk A n) (aNo A n)) (K j) t ln)) → kW l G m_X5_planDates 9 (fun v h' => v = none ∧ (∀ j : Nat, j < ss.length → ¬ 0 ≤ (bsyF f (-1) (-1) (exM (aHs A n) (aAk A n) (aNo A n)) (K j) t ln)) ∧ (∀ j : Nat, j < ss.length → 0 ≤ (smlF f (-1) (-1) (exM (aHs A n) (aAk A n) (aNo A n)) (K j) t ln)) ∧ ∃ (dg sg : Int → Int → Nat) (ow3 : Nat → Nat × Nat) (dx : Int → List (Int × Int)), kRA G h' pl (xDS γ ow3 dg sg) (xMx (xDD A (kAdt A n (aMn A n) ss.length K (fun j : Nat => smlF f (-1) (-1) (exM (aHs A n) (aAk A n) (aNo A n)) (K j) t ln) t ln) (aDx A)) n (aMn A n + ss.length) dx) ∧ (∀ k : Int, 0 ≤ k → k < 28 → kDo (xMx (xDD A (kAdt A n (aMn A n) ss.length K (fun j : Nat => smlF f (-1) (-1) (exM (aHs A n) (aAk A n) (aNo A n)) (K j) t ln) t ln) (aDx A)) n (aMn A n + ss.length) dx) (dx k) 60 ∧ ∀ q : Int × Int, q ∈ dx k ↔ q ∈ aDx A k ∨ ∃ j : Nat, j < ss.length ∧ q = (n, ((aMn A n : Nat) : Int) + (j : Int)) ∧ K j = k) ∧ ∀ (b : Nat) (e : va_E), h b = some e → gOw γ b = (0, 0) → b ∉ ss → h' b = some e ∧ ow3 b = (0, 0)) (fun E h' => E = "java/lang/UnsupportedOperationException" ∧ ∃ f' : Nat → Int, ((∃ i : Nat, i < ss.length ∧ 0 ≤ (bsyF f (-1) (-1) (exM (aHs A n) (aAk A n) (aNo A n)) (K i) t ln) ∧ (∀ j : Nat, j < i → ¬ 0 ≤ (bsyF f (-1) (-1) (exM (aHs A n) (aAk A n) (aNo A n)) (K j) t ln)) ∧ f' = rfF f 1 (bsyF f (-1) (-1) (exM (aHs A n) (aAk A n) (aNo A n)) (K i) t ln)) ∨ ((∀ j : Nat, j < ss.length → ¬ 0 ≤ (bsyF f (-1) (-1) (exM (aHs A n) (aAk A n) (aNo A n)) (K j) t ln)) ∧ ∃ i : Nat, i < ss.length ∧ (smlF f (-1) (-1) (exM (aHs A n) (aAk A n) (aNo A n)) (K i) t ln) < 0 ∧ (∀ j : Nat, j < i → 0 ≤ (smlF f (-1) (-1) (exM (aHs A n) (aAk A n) (aNo A n)) (K j) t ln)) ∧ f' = rfF f 2 (((aMn A n : Nat) : Int) + (i : Int)))) ∧ ∃ A' : kAb, kRp G h' pl γ A' f' ∧ ∀ (b : Nat) (e : va_E), h b = some e → b ≠ pl → h' b = some e) 26 3640 2 [some (.ref pl), some (.ref (gMt γ n)), some (.ref sl), some (.int (iI ((i : Nat) : Int))), none, none, none] [] h := by
    intro zz
    induction zz using Nat.strongRecOn with
    | ind zz ih2 =>
    intro i hr2 hi9 hJ
    refine k_iload_n (pc1 := 3) dX5_planDates_2 rfl rfl ?_
    refine k_aload_n (pc1 := 4) dX5_planDates_3 rfl rfl ?_
    refine k_callVP dX5_planDates_4 rfl lk_RX5_65 o_Jx4a65c_size_8abf5 (w_lsz hl hSl) (as := []) hSa rfl rfl rfl rfl (by decide) (by decide) (k8 rfl) ?_
    refine k_icmp_ge (a := ((i : Nat) : Int)) (b := ((ss.length : Nat) : Int)) dX5_planDates_7 rfl (tgt := 30) rfl (by omega) (by omega) (fun c7 : ((ss.length : Nat) : Int) ≤ ((i : Nat) : Int) => ?_) (fun c7 : ((i : Nat) : Int) < ((ss.length : Nat) : Int) => ?_)
    · skip
      have hB : ∀ j : Nat, j < ss.length → ¬ 0 ≤ (bsyF f (-1) (-1) (exM (aHs A n) (aAk A n) (aNo A n)) (K j) t ln) := fun j hj => hJ j (by omega)
      refine k_new (pc1 := 33) dX5_planDates_30 rfl nw_RX5_25 (by omega) (by omega) (fun p hp0 => ?_)
      refine k_dup (pc1 := 34) dX5_planDates_33 rfl rfl ?_
      refine k_callI dX5_planDates_34 rfl lk_RX5_27 o_Jx4a65c_init_da8c8 (as := []) rfl rfl (w_lnew hl (kup_same _ _ _)) (fun E h9 z => z.elim) (by decide) (by decide) (Nat.zero_le _) (Nat.zero_le _) (k8 rfl) (fun v hN hv => ?_)
      obtain ⟨hv1, hLN, hv3⟩ := hv
      subst hv1
      refine k_st (st' := [.ref p]) rfl ?_
      have hfN : ∀ b, b ≠ p → hN b = h b := fun b hb => (hv3 b hb).trans (kup_ne hb)
      have hXN : kXt h hN := fun b e z => (hfN b (kne_new z hp0)).trans z
      clear hv3
      have hC0 := hC
      replace hC := kRp_xt hXN hC0
      refine k_astore_n (pc1 := 38) dX5_planDates_37 rfl (by decide) (k_loc (L' := [some (.ref pl), some (.ref (gMt γ n)), some (.ref sl), some (.ref p), none, none, none]) rfl ?_)
      refine k_iconst (pc1 := 39) dX5_planDates_38 rfl ?_
      refine k_istore (pc1 := 41) dX5_planDates_39 rfl (by decide) (k_loc (L' := [some (.ref pl), some (.ref (gMt γ n)), some (.ref sl), some (.ref p), some (.int (iI 0)), none, none]) rfl ?_)
      have hloop41 : ∀ (zz : Nat) (i : Nat) (h2 : kAH) (arp cp : Nat) (qs : List Nat), zz = ss.length - i → (i ≤ ss.length) → (kXt h h2) → (kLs G h2 p arp cp qs) → (qs.length = i) → (arp = G.2.2.2 ∨ h arp = none) → (kPl h (gMt γ n) (fun j => gRm γ (smlF f (-1) (-1) (exM (aHs A n) (aAk A n) (aNo A n)) (K j) t ln)) ss h2 qs) → (∀ j : Nat, j < i → 0 ≤ (smlF f (-1) (-1) (exM (aHs A n) (aAk A n) (aNo A n)) (K j) t ln)) → kW l G m_X5_planDates 9 (fun v h' => v = none ∧ (∀ j : Nat, j < ss.length → ¬ 0 ≤ (bsyF f (-1) (-1) (exM (aHs A n) (aAk A n) (aNo A n)) (K j) t ln)) ∧ (∀ j : Nat, j < ss.length → 0 ≤ (smlF f (-1) (-1) (exM (aHs A n) (aAk A n) (aNo A n)) (K j) t ln)) ∧ ∃ (dg sg : Int → Int → Nat) (ow3 : Nat → Nat × Nat) (dx : Int → List (Int × Int)), kRA G h' pl (xDS γ ow3 dg sg) (xMx (xDD A (kAdt A n (aMn A n) ss.length K (fun j : Nat => smlF f (-1) (-1) (exM (aHs A n) (aAk A n) (aNo A n)) (K j) t ln) t ln) (aDx A)) n (aMn A n + ss.length) dx) ∧ (∀ k : Int, 0 ≤ k → k < 28 → kDo (xMx (xDD A (kAdt A n (aMn A n) ss.length K (fun j : Nat => smlF f (-1) (-1) (exM (aHs A n) (aAk A n) (aNo A n)) (K j) t ln) t ln) (aDx A)) n (aMn A n + ss.length) dx) (dx k) 60 ∧ ∀ q : Int × Int, q ∈ dx k ↔ q ∈ aDx A k ∨ ∃ j : Nat, j < ss.length ∧ q = (n, ((aMn A n : Nat) : Int) + (j : Int)) ∧ K j = k) ∧ ∀ (b : Nat) (e : va_E), h b = some e → gOw γ b = (0, 0) → b ∉ ss → h' b = some e ∧ ow3 b = (0, 0)) (fun E h' => E = "java/lang/UnsupportedOperationException" ∧ ∃ f' : Nat → Int, ((∃ i : Nat, i < ss.length ∧ 0 ≤ (bsyF f (-1) (-1) (exM (aHs A n) (aAk A n) (aNo A n)) (K i) t ln) ∧ (∀ j : Nat, j < i → ¬ 0 ≤ (bsyF f (-1) (-1) (exM (aHs A n) (aAk A n) (aNo A n)) (K j) t ln)) ∧ f' = rfF f 1 (bsyF f (-1) (-1) (exM (aHs A n) (aAk A n) (aNo A n)) (K i) t ln)) ∨ ((∀ j : Nat, j < ss.length → ¬ 0 ≤ (bsyF f (-1) (-1) (exM (aHs A n) (aAk A n) (aNo A n)) (K j) t ln)) ∧ ∃ i : Nat, i < ss.length ∧ (smlF f (-1) (-1) (exM (aHs A n) (aAk A n) (aNo A n)) (K i) t ln) < 0 ∧ (∀ j : Nat, j < i → 0 ≤ (smlF f (-1) (-1) (exM (aHs A n) (aAk A n) (aNo A n)) (K j) t ln)) ∧ f' = rfF f 2 (((aMn A n : Nat) : Int) + (i : Int)))) ∧ ∃ A' : kAb, kRp G h' pl γ A' f' ∧ ∀ (b : Nat) (e : va_E), h b = some e → b ≠ pl → h' b = some e) (2 * (6 - i) + 13) (204 * (6 - i) + 2406) 41 [some (.ref pl), some (.ref (gMt γ n)), some (.ref sl), some (.ref p), some (.int (iI ((i : Nat) : Int))), none, none] [] h2 := by
        intro zz
        induction zz using Nat.strongRecOn with
        | ind zz ih41 =>
        intro i h2 arp cp qs hr41 hi9 hX2 hP hqi harp hpl hS9
        replace hC := kRp_xt hX2 hC0
        have hM2 := hX2 _ _ hM9
        have hSl2 := kLs_xt hX2 hSl
        obtain ⟨mcS2, hSa2⟩ := hSl2.1
        obtain ⟨-, arE, cE, hMdE, -⟩ := (hC.1.2.2.2.2.2.2.1 n hn).2.2
        obtain ⟨mcE, hMeE⟩ := hMdE.1
        refine k_iload (pc1 := 43) dX5_planDates_41 rfl rfl ?_
        refine k_aload_n (pc1 := 44) dX5_planDates_43 rfl rfl ?_
        refine k_callVP dX5_planDates_44 rfl lk_RX5_65 o_Jx4a65c_size_8abf5 (w_lsz hl hSl2) (as := []) hSa2 rfl rfl rfl rfl (by decide) (by decide) (k8 rfl) ?_
        refine k_icmp_ge (a := ((i : Nat) : Int)) (b := ((ss.length : Nat) : Int)) dX5_planDates_47 rfl (tgt := 104) rfl (by omega) (by omega) (fun c47 : ((ss.length : Nat) : Int) ≤ ((i : Nat) : Int) => ?_) (fun c47 : ((i : Nat) : Int) < ((ss.length : Nat) : Int) => ?_)
        · skip
          have hS : ∀ j : Nat, j < ss.length → 0 ≤ (smlF f (-1) (-1) (exM (aHs A n) (aAk A n) (aNo A n)) (K j) t ln) := fun j hj => hS9 j (by omega)
          have hqe : qs.length = ss.length := by omega
          refine k_iconst (pc1 := 105) dX5_planDates_104 rfl ?_
          refine k_istore (pc1 := 107) dX5_planDates_105 rfl (by decide) (k_loc (L' := [some (.ref pl), some (.ref (gMt γ n)), some (.ref sl), some (.ref p), some (.int (iI 0)), none, none]) rfl ?_)
          have hloop107 : ∀ (zz : Nat) (i : Nat) (h3 : kAH) (ow3 : Nat → Nat × Nat) (dx : Int → List (Int × Int)), zz = ss.length - i → (i ≤ ss.length) → (kPi G pl γ (xDS γ γ.1 (kAgd (gDt γ) n (aMn A n) ss.length qs) (kAgd (gSt γ) n (aMn A n) ss.length ss)) A (xDD A (kAdt A n (aMn A n) ss.length K (fun j : Nat => smlF f (-1) (-1) (exM (aHs A n) (aAk A n) (aNo A n)) (K j) t ln) t ln) (aDx A)) n (aMn A n) K ss qs h2 i h3 ow3 dx) → kW l G m_X5_planDates 9 (fun v h' => v = none ∧ (∀ j : Nat, j < ss.length → ¬ 0 ≤ (bsyF f (-1) (-1) (exM (aHs A n) (aAk A n) (aNo A n)) (K j) t ln)) ∧ (∀ j : Nat, j < ss.length → 0 ≤ (smlF f (-1) (-1) (exM (aHs A n) (aAk A n) (aNo A n)) (K j) t ln)) ∧ ∃ (dg sg : Int → Int → Nat) (ow3 : Nat → Nat × Nat) (dx : Int → List (Int × Int)), kRA G h' pl (xDS γ ow3 dg sg) (xMx (xDD A (kAdt A n (aMn A n) ss.length K (fun j : Nat => smlF f (-1) (-1) (exM (aHs A n) (aAk A n) (aNo A n)) (K j) t ln) t ln) (aDx A)) n (aMn A n + ss.length) dx) ∧ (∀ k : Int, 0 ≤ k → k < 28 → kDo (xMx (xDD A (kAdt A n (aMn A n) ss.length K (fun j : Nat => smlF f (-1) (-1) (exM (aHs A n) (aAk A n) (aNo A n)) (K j) t ln) t ln) (aDx A)) n (aMn A n + ss.length) dx) (dx k) 60 ∧ ∀ q : Int × Int, q ∈ dx k ↔ q ∈ aDx A k ∨ ∃ j : Nat, j < ss.length ∧ q = (n, ((aMn A n : Nat) : Int) + (j : Int)) ∧ K j = k) ∧ ∀ (b : Nat) (e : va_E), h b = some e → gOw γ b = (0, 0) → b ∉ ss → h' b = some e ∧ ow3 b = (0, 0)) (fun E h' => E = "java/lang/UnsupportedOperationException" ∧ ∃ f' : Nat → Int, ((∃ i : Nat, i < ss.length ∧ 0 ≤ (bsyF f (-1) (-1) (exM (aHs A n) (aAk A n) (aNo A n)) (K i) t ln) ∧ (∀ j : Nat, j < i → ¬ 0 ≤ (bsyF f (-1) (-1) (exM (aHs A n) (aAk A n) (aNo A n)) (K j) t ln)) ∧ f' = rfF f 1 (bsyF f (-1) (-1) (exM (aHs A n) (aAk A n) (aNo A n)) (K i) t ln)) ∨ ((∀ j : Nat, j < ss.length → ¬ 0 ≤ (bsyF f (-1) (-1) (exM (aHs A n) (aAk A n) (aNo A n)) (K j) t ln)) ∧ ∃ i : Nat, i < ss.length ∧ (smlF f (-1) (-1) (exM (aHs A n) (aAk A n) (aNo A n)) (K i) t ln) < 0 ∧ (∀ j : Nat, j < i → 0 ≤ (smlF f (-1) (-1) (exM (aHs A n) (aAk A n) (aNo A n)) (K j) t ln)) ∧ f' = rfF f 2 (((aMn A n : Nat) : Int) + (i : Int)))) ∧ ∃ A' : kAb, kRp G h' pl γ A' f' ∧ ∀ (b : Nat) (e : va_E), h b = some e → b ≠ pl → h' b = some e) (2 * (6 - i) + 1) (400 * (6 - i) + 6) 107 [some (.ref pl), some (.ref (gMt γ n)), some (.ref sl), some (.ref p), some (.int (iI ((i : Nat) : Int))), none, none] [] h3 := by
            intro zz
            induction zz using Nat.strongRecOn with
            | ind zz ih107 =>
            intro i h3 ow3 dx hr107 hi9 hpi
            have hR3 := hpi.1
            have hP3 := pi_list hpi hC0.1 hpl hss hX2 hP hp0 harp hed0
            obtain ⟨mcP3, hP3a⟩ := hP3.1
            have hM3 : h3 (gMt γ n) = some (kMc γ A n) := (hR3.2.2.2.2.2.2.1 n hn).2.1.1
            refine k_iload (pc1 := 109) dX5_planDates_107 rfl rfl ?_
            refine k_aload_n (pc1 := 110) dX5_planDates_109 rfl rfl ?_
            refine k_callVP dX5_planDates_110 rfl lk_RX5_65 o_Jx4a65c_size_8abf5 (w_lsz hl hP3) (as := []) hP3a rfl rfl rfl rfl (by decide) (by decide) (k8 rfl) ?_
            refine k_icmp_ge (a := ((i : Nat) : Int)) (b := ((qs.length : Nat) : Int)) dX5_planDates_113 rfl (tgt := 149) rfl (by omega) (by omega) (fun c113 : ((qs.length : Nat) : Int) ≤ ((i : Nat) : Int) => ?_) (fun c113 : ((i : Nat) : Int) < ((qs.length : Nat) : Int) => ?_)
            · skip
              have ei : i = ss.length := by omega
              subst ei
              exact k_vret dX5_planDates_149 rfl ⟨rfl, hB, hS, _, _, ow3, dx, hpi.1, fun k k0 k1 => ⟨do_le (hpi.2.1 k k0 k1).1 (by omega), (hpi.2.1 k k0 k1).2⟩, fun b e g1 g2 g3 => hpi.2.2 b e (hX2 b e g1) g2 (fun j hj => ⟨fun y => (by
                obtain ⟨v1, -⟩ := hpl.2 j _ y
                rw [g1] at v1; cases v1), fun y => g3 (List.mem_of_getElem? y)⟩)⟩
            · skip
              obtain ⟨qi, si, e1, e2, hq3, hq0, hs3, hs0⟩ := pi_at hpi hC0.1 (by omega) hX2 hpl hqe hss hnd
              replace hq3 : h3 qi = some (.inr (4, [.ref (gMt γ n), .ref si, .ref (gRm γ (smlF f (-1) (-1) (exM (aHs A n) (aAk A n) (aNo A n)) (K i) t ln)), .int (iI 0)])) := hq3
              have hKi := hK i (by omega)
              refine k_aload_n (pc1 := 117) dX5_planDates_116 rfl rfl ?_
              refine k_iload (pc1 := 119) dX5_planDates_117 rfl rfl ?_
              refine k_callVP dX5_planDates_119 rfl lk_RX5_131 o_Jx4a65c_get_915e3 (w_lgt hl hP3 ((i : Nat) : Int) ⟨by omega, by omega⟩ e1) (as := [.int (iI ((i : Nat) : Int))]) hP3a rfl rfl rfl rfl (by decide) (by decide) (k8 rfl) ?_
              refine k_cast (r := (RX0, TX0, 4)) (pc1 := 125) dX5_planDates_122 rfl cl_RX5_109 hq3 rfl ?_
              refine k_astore (pc1 := 127) dX5_planDates_125 rfl (by decide) (k_loc (L' := [some (.ref pl), some (.ref (gMt γ n)), some (.ref sl), some (.ref p), some (.int (iI ((i : Nat) : Int))), some (.ref qi), none]) rfl ?_)
              refine k_aload_n (pc1 := 128) dX5_planDates_127 rfl rfl ?_
              refine k_get (pc1 := 131) dX5_planDates_128 rfl fd_RX5_101 hM3 (v := .ref (gMd γ n)) rfl ?_
              refine k_aload (pc1 := 133) dX5_planDates_131 rfl rfl ?_
              obtain ⟨-, ar5, c5, hMd5, har5⟩ := (hR3.2.2.2.2.2.2.1 n hn).2.2
              replace hMd5 : kLs G h3 (gMd γ n) ar5 c5 ((List.range (aMn A n + i)).map fun (d : Nat) => kAgd (gDt γ) n (aMn A n) ss.length qs n (d : Int)) := by
                have y := hMd5
                rw [show aMn (xMx (xDD A (kAdt A n (aMn A n) ss.length K (fun j : Nat => smlF f (-1) (-1) (exM (aHs A n) (aAk A n) (aNo A n)) (K j) t ln) t ln) (aDx A)) n (aMn A n + i) dx) n = aMn A n + i from if_pos rfl] at y
                exact y
              obtain ⟨mc5, hMe5⟩ := hMd5.1
              refine k_ged (fun hed3 => ?_)
              have har6 : ow3 ar5 = (6, n.toNat) ∨ h3 ar5 = none := by
                rcases har5 with ⟨y, -, -⟩ | y
                · exact Or.inr (by rw [y]; exact hed3)
                · exact Or.inl y
              have hEs5 : ∀ y ∈ ((List.range (aMn A n + i)).map fun (d : Nat) => kAgd (gDt γ) n (aMn A n) ss.length qs n (d : Int)), ∃ vs : List Value, h3 y = some (.inr (4, vs)) := fun y hy => by
                obtain ⟨d, hd, rfl⟩ := List.mem_map.mp hy
                have hd2 := List.mem_range.mp hd
                exact ⟨_, (hR3.2.2.2.2.2.2.2.1 n (d : Int) hn (by omega) (by rw [show aMn (xMx (xDD A (kAdt A n (aMn A n) ss.length K (fun j : Nat => smlF f (-1) (-1) (exM (aHs A n) (aAk A n) (aNo A n)) (K j) t ln) t ln) (aDx A)) n (aMn A n + i) dx) n = aMn A n + i from if_pos rfl]; omega) (by omega)).1.1⟩
              refine k_callV dX5_planDates_133 rfl lk_RX5_86 o_Jx4a65c_add_9ea2d (as := [.ref qi]) rfl rfl hMe5 rfl rfl (w_ladd hl hMd5 (by rw [List.length_map, List.length_range]; omega) (ci := 4) rfl (by decide) (by decide) hEs5 hq3) (by decide) (by decide) (by omega) (by omega) (k8 rfl) (fun v h4 hv => ?_) (fun E h9 z => z.elim)
              obtain ⟨hv1, hx4⟩ := hv
              subst hv1
              refine k_st (st' := [.int (iI 1)]) rfl ?_
              refine k_ged (fun hed4 => ?_)
              obtain ⟨ow4, hR4, hu4⟩ := pi_add (h2 := h3) hn (by omega) hc6 hR3 e1 e2 hq3 hq0 hs3 hs0 hMd5 har6 hed4 hx4
              refine k_pop (pc1 := 137) dX5_planDates_136 rfl rfl ?_
              refine k_aload_n (pc1 := 138) dX5_planDates_137 rfl rfl ?_
              refine k_aload (pc1 := 140) dX5_planDates_138 rfl rfl ?_
              have ha1 : kAgd (gDt γ) n (aMn A n) ss.length qs n (((aMn A n : Nat) : Int) + ((i : Nat) : Int)) = qi := kAgd_at (by omega) e1
              obtain ⟨v0, v1, -⟩ := kAdt_at (A := A) (n := n) (c := aMn A n) (K := K) (S := (fun j : Nat => smlF f (-1) (-1) (exM (aHs A n) (aAk A n) (aNo A n)) (K j) t ln)) (t := t) (ln := ln) (x := i) (e := ss.length) (by omega)
              have v1b : 0 ≤ aDt (xMx (xDD A (kAdt A n (aMn A n) ss.length K (fun j : Nat => smlF f (-1) (-1) (exM (aHs A n) (aAk A n) (aNo A n)) (K j) t ln) t ln) (aDx A)) n (aMn A n + i + 1) dx) n (((aMn A n : Nat) : Int) + ((i : Nat) : Int)) 1 ∧ aDt (xMx (xDD A (kAdt A n (aMn A n) ss.length K (fun j : Nat => smlF f (-1) (-1) (exM (aHs A n) (aAk A n) (aNo A n)) (K j) t ln) t ln) (aDx A)) n (aMn A n + i + 1) dx) n (((aMn A n : Nat) : Int) + ((i : Nat) : Int)) 1 ≤ 100 := by
                rw [show aDt (xMx (xDD A (kAdt A n (aMn A n) ss.length K (fun j : Nat => smlF f (-1) (-1) (exM (aHs A n) (aAk A n) (aNo A n)) (K j) t ln) t ln) (aDx A)) n (aMn A n + i + 1) dx) n (((aMn A n : Nat) : Int) + ((i : Nat) : Int)) 1 = t from v1]; omega
              have hcon := w_onD2 hl (γ := (ow4, (xDS γ γ.1 (kAgd (gDt γ) n (aMn A n) ss.length qs) (kAgd (gSt γ) n (aMn A n) ss.length ss)).2)) (A := (xMx (xDD A (kAdt A n (aMn A n) ss.length K (fun j : Nat => smlF f (-1) (-1) (exM (aHs A n) (aAk A n) (aNo A n)) (K j) t ln) t ln) (aDx A)) n (aMn A n + i + 1) dx)) hR4 (n := n) (d := (((aMn A n : Nat) : Int) + ((i : Nat) : Int))) (k := K i) v0 hn (by omega) (by rw [show aMn (xMx (xDD A (kAdt A n (aMn A n) ss.length K (fun j : Nat => smlF f (-1) (-1) (exM (aHs A n) (aAk A n) (aNo A n)) (K j) t ln) t ln) (aDx A)) n (aMn A n + i + 1) dx) n = aMn A n + i + 1 from if_pos rfl]; omega) (by omega) hKi.1 hKi.2 (N := 48 + i) (pi_do hpi hKi.1 hKi.2) (by omega) (pi_new hpi hC0 hKi.1 hKi.2) v1b
              rw [show gDt (ow4, (xDS γ γ.1 (kAgd (gDt γ) n (aMn A n) ss.length qs) (kAgd (gSt γ) n (aMn A n) ss.length ss)).2) n (((aMn A n : Nat) : Int) + ((i : Nat) : Int)) = qi from ha1] at hcon
              refine k_callV dX5_planDates_140 rfl lk_RX5_194 o_X5_putOnItsDay (as := [.ref qi]) rfl rfl hR4.1.1 rfl rfl hcon (by decide) (by decide) (by omega) (by omega) (k8 rfl) (fun v h6 hv => ?_) (fun E h9 z => z.elim)
              obtain ⟨hv1, ow5, xs5, hR5, ho5, hx5, hu5⟩ := hv
              subst hv1
              refine k_st (st' := []) rfl ?_
              have hpi2 := pi_on hpi e1 e2 hu4 hR5 ho5 hx5 hu5
              refine k_iinc (a := ((i : Nat) : Int)) (pc1 := 146) dX5_planDates_143 rfl rfl (by decide) (k_loc (L' := [some (.ref pl), some (.ref (gMt γ n)), some (.ref sl), some (.ref p), some (.int (iI (((i : Nat) : Int) + 1))), some (.ref qi), none]) rfl ?_)
              refine k_goto dX5_planDates_146 (tgt := 107) rfl ?_
              refine k_forget 5 (k_loc (L' := [some (.ref pl), some (.ref (gMt γ n)), some (.ref sl), some (.ref p), some (.int (iI (((i : Nat) : Int) + 1))), none, none]) rfl ?_)
              exact k_widen (by omega) (by omega) (ih107 _ (by omega) (i + 1) h6 ow5 _ rfl (by omega) hpi2)
          exact k_widen (by omega) (by omega) (hloop107 _ 0 h2 γ.1 (aDx A) rfl (by omega) (pi_0 hC0 hn hC.1))
        · skip
          obtain ⟨xi, hxi⟩ : ∃ y, ss[i]? = some y := ⟨ss[i]'(by omega), List.getElem?_eq_getElem (by omega)⟩
          obtain ⟨hxS, hx0⟩ := hss i xi hxi
          have hKi := hK i (by omega)
          replace hxS := hX2 _ _ hxS
          refine k_aload_n (pc1 := 51) dX5_planDates_50 rfl rfl ?_
          refine k_iload (pc1 := 53) dX5_planDates_51 rfl rfl ?_
          refine k_callVP dX5_planDates_53 rfl lk_RX5_131 o_Jx4a65c_get_915e3 (w_lgt hl hSl2 ((i : Nat) : Int) ⟨by omega, by omega⟩ hxi) (as := [.int (iI ((i : Nat) : Int))]) hSa2 rfl rfl rfl rfl (by decide) (by decide) (k8 rfl) ?_
          refine k_cast (r := (RX4, TX4, 3)) (pc1 := 59) dX5_planDates_56 rfl cl_RX5_83 hxS rfl ?_
          refine k_astore (pc1 := 61) dX5_planDates_59 rfl (by decide) (k_loc (L' := [some (.ref pl), some (.ref (gMt γ n)), some (.ref sl), some (.ref p), some (.int (iI ((i : Nat) : Int))), some (.ref xi), none]) rfl ?_)
          refine k_aload_n (pc1 := 62) dX5_planDates_61 rfl rfl ?_
          refine k_aload_n (pc1 := 63) dX5_planDates_62 rfl rfl ?_
          refine k_aload_n (pc1 := 64) dX5_planDates_63 rfl rfl ?_
          refine k_get (pc1 := 67) dX5_planDates_64 rfl fd_RX5_101 hM2 (v := .ref (gMd γ n)) rfl ?_
          refine k_callVP dX5_planDates_67 rfl lk_RX5_65 o_Jx4a65c_size_8abf5 (w_lsz hl hMdE) (as := []) hMeE rfl rfl rfl rfl (by decide) (by decide) (k8 rfl) ?_
          refine k_val (v' := .int (iI (((aMn A n) : Nat) : Int))) (congrArg (fun z : Nat => Value.int (iI (z : Int))) ((List.length_map _).trans List.length_range)) ?_
          refine k_iload (pc1 := 72) dX5_planDates_70 rfl rfl ?_
          refine k_iadd (a := (((aMn A n) : Nat) : Int)) (b := ((i : Nat) : Int)) (pc1 := 73) dX5_planDates_72 rfl ?_
          refine k_aload (pc1 := 75) dX5_planDates_73 rfl rfl ?_
          refine k_null (pc1 := 76) dX5_planDates_75 rfl ?_
          by_cases hs9 : (smlF f (-1) (-1) (exM (aHs A n) (aAk A n) (aNo A n)) (K i) t ln) < 0
          · skip
            refine k_callV dX5_planDates_76 rfl lk_RX5_186 o_X5_requireRoom (as := [.ref (gMt γ n), .int (iI ((((aMn A n) : Nat) : Int) + ((i : Nat) : Int))), .ref xi, .null]) rfl rfl (rp_P hC) rfl rfl (w_rqN hl hC hM2 hh ha hy hno hxS hKi ht hln (lo := none) kLv_none (ix := ((aMn A n : Nat) : Int) + ((i : Nat) : Int)) ⟨by omega, by omega⟩ hs9) (by decide) (by decide) (by omega) (by omega) (k8 rfl) (fun v h9 z => z.elim) (fun E h9 z => kx_out rfl ?_)
            obtain ⟨hv1, A1, hC1, hfr1⟩ := z
            exact ⟨hv1, _, Or.inr ⟨hB, i, by omega, hs9, hS9, rfl⟩, A1, hC1, fun b e g1 g2 => (hfr1 b g2).trans (hX2 b e g1)⟩
          · skip
            refine k_callVP dX5_planDates_76 rfl lk_RX5_186 o_X5_requireRoom (w_rqY hl hC hM2 hh ha hy hno hxS hKi ht hln (lo := none) kLv_none (ix := ((aMn A n : Nat) : Int) + ((i : Nat) : Int)) ⟨by omega, by omega⟩ (by omega)) (as := [.ref (gMt γ n), .int (iI ((((aMn A n) : Nat) : Int) + ((i : Nat) : Int))), .ref xi, .null]) (rp_P hC) rfl rfl rfl rfl (by decide) (by decide) (k8 rfl) ?_
            refine k_astore (pc1 := 81) dX5_planDates_79 rfl (by decide) (k_loc (L' := [some (.ref pl), some (.ref (gMt γ n)), some (.ref sl), some (.ref p), some (.int (iI ((i : Nat) : Int))), some (.ref xi), some (.ref (gRm γ (smlF f (-1) (-1) (exM (aHs A n) (aAk A n) (aNo A n)) (K i) t ln)))]) rfl ?_)
            refine k_aload_n (pc1 := 82) dX5_planDates_81 rfl rfl ?_
            refine k_new (pc1 := 85) dX5_planDates_82 rfl nw_RX5_109 (by omega) (by omega) (fun q hq => ?_)
            refine k_dup (pc1 := 86) dX5_planDates_85 rfl rfl ?_
            refine k_aload_n (pc1 := 87) dX5_planDates_86 rfl rfl ?_
            refine k_aload (pc1 := 89) dX5_planDates_87 rfl rfl ?_
            refine k_aload (pc1 := 91) dX5_planDates_89 rfl rfl ?_
            refine k_callI dX5_planDates_91 rfl lk_RX5_295 o_X0_init (as := [.ref (gMt γ n), .ref xi, .ref (gRm γ (smlF f (-1) (-1) (exM (aHs A n) (aAk A n) (aNo A n)) (K i) t ln))]) rfl rfl (w_dateI hl (kup_same _ _ _)) (fun E h9 z => z.elim) (by decide) (by decide) (Nat.zero_le _) (Nat.zero_le _) (k8 rfl) (fun v h4 hv => ?_)
            obtain ⟨hv1, hv2, hv3⟩ := hv
            subst hv1
            refine k_st (st' := [.ref q, .ref p]) rfl ?_
            replace hv3 : ∀ b, b ≠ q → h4 b = h2 b := fun b hb => (hv3 b hb).trans (kup_ne hb)
            refine k_ged (fun hed4 => ?_)
            have hP4 : kLs G h4 p arp cp qs := kLs_fr hP (fun e he => (hv3 p (kne_new he hq)).trans he) (fun e he => (hv3 arp (kne_new he hq)).trans he)
            obtain ⟨mcP4, hP4a⟩ := hP4.1
            have hEs4 : ∀ y ∈ qs, ∃ vs : List Value, h4 y = some (.inr (4, vs)) := fun y hy => by
              obtain ⟨j, ej⟩ := List.getElem?_of_mem hy
              obtain ⟨-, s9, -, z3⟩ := hpl.2 j y ej
              exact ⟨_, (hv3 y (kne_new z3 hq)).trans z3⟩
            refine k_callV dX5_planDates_94 rfl lk_RX5_86 o_Jx4a65c_add_9ea2d (as := [.ref q]) rfl rfl hP4a rfl rfl (w_ladd hl hP4 (by omega) (ci := 4) rfl (by decide) (by decide) hEs4 hv2) (by decide) (by decide) (by omega) (by omega) (k8 rfl) (fun v h5 hv => ?_) (fun E h9 z => z.elim)
            obtain ⟨hv1, hx5⟩ := hv
            subst hv1
            refine k_st (st' := [.int (iI 1)]) rfl ?_
            refine k_pop (pc1 := 98) dX5_planDates_97 rfl rfl ?_
            refine k_iinc (a := ((i : Nat) : Int)) (pc1 := 101) dX5_planDates_98 rfl rfl (by decide) (k_loc (L' := [some (.ref pl), some (.ref (gMt γ n)), some (.ref sl), some (.ref p), some (.int (iI (((i : Nat) : Int) + 1))), some (.ref xi), some (.ref (gRm γ (smlF f (-1) (-1) (exM (aHs A n) (aAk A n) (aNo A n)) (K i) t ln)))]) rfl ?_)
            refine k_goto dX5_planDates_101 (tgt := 41) rfl ?_
            refine k_forget 5 (k_loc (L' := [some (.ref pl), some (.ref (gMt γ n)), some (.ref sl), some (.ref p), some (.int (iI (((i : Nat) : Int) + 1))), none, some (.ref (gRm γ (smlF f (-1) (-1) (exM (aHs A n) (aAk A n) (aNo A n)) (K i) t ln)))]) rfl ?_)
            refine k_forget 6 (k_loc (L' := [some (.ref pl), some (.ref (gMt γ n)), some (.ref sl), some (.ref p), some (.int (iI (((i : Nat) : Int) + 1))), none, none]) rfl ?_)
            obtain ⟨w1, ⟨arp2, cp2, w2, w3⟩, w4⟩ := pl_step hX2 hp0 hP harp hed0 hed4 hpl (s := xi) (by rw [hqi]; exact hxi) hq (by rw [hqi]; exact hv2) hv3 hx5
            exact k_widen (by omega) (by omega) (ih41 _ (by omega) (i + 1) h5 arp2 cp2 (qs ++ [q]) rfl (by omega) w1 w2 (by rw [List.length_append, List.length_singleton, hqi]) w3 w4 (fun j hj => if e : j = i then (by subst e; omega) else hS9 j (by omega)))
      exact k_widen (by omega) (by omega) (hloop41 _ 0 hN G.2.2.2 0 [] rfl (by omega) hXN hLN rfl (Or.inl rfl) pl_0 (fun j hj => absurd hj (by omega)))
    · skip
      obtain ⟨xi, hxi⟩ : ∃ y, ss[i]? = some y := ⟨ss[i]'(by omega), List.getElem?_eq_getElem (by omega)⟩
      obtain ⟨hxS, hx0⟩ := hss i xi hxi
      have hKi := hK i (by omega)
      refine k_aload_n (pc1 := 11) dX5_planDates_10 rfl rfl ?_
      refine k_aload_n (pc1 := 12) dX5_planDates_11 rfl rfl ?_
      refine k_aload_n (pc1 := 13) dX5_planDates_12 rfl rfl ?_
      refine k_iload_n (pc1 := 14) dX5_planDates_13 rfl rfl ?_
      refine k_callVP dX5_planDates_14 rfl lk_RX5_131 o_Jx4a65c_get_915e3 (w_lgt hl hSl ((i : Nat) : Int) ⟨by omega, by omega⟩ hxi) (as := [.int (iI ((i : Nat) : Int))]) hSa rfl rfl rfl rfl (by decide) (by decide) (k8 rfl) ?_
      refine k_cast (r := (RX4, TX4, 3)) (pc1 := 20) dX5_planDates_17 rfl cl_RX5_83 hxS rfl ?_
      refine k_null (pc1 := 21) dX5_planDates_20 rfl ?_
      by_cases hb9 : 0 ≤ (bsyF f (-1) (-1) (exM (aHs A n) (aAk A n) (aNo A n)) (K i) t ln)
      · skip
        refine k_callV dX5_planDates_21 rfl lk_RX5_182 o_X5_requireNobodyBusy (as := [.ref (gMt γ n), .ref xi, .null]) rfl rfl (rp_P hC) rfl rfl (w_nbN hl hC hM9 hh ha hy hno hxS hKi ht hln (lo := none) kLv_none hb9) (by decide) (by decide) (by decide) (by decide) (k8 rfl) (fun v h9 z => z.elim) (fun E h9 z => kx_out rfl ?_)
        obtain ⟨hv1, A1, hC1, hfr1⟩ := z
        exact ⟨hv1, _, Or.inl ⟨i, by omega, hb9, hJ, rfl⟩, A1, hC1, fun b e g1 g2 => (hfr1 b g2).trans g1⟩
      · skip
        refine k_callV dX5_planDates_21 rfl lk_RX5_182 o_X5_requireNobodyBusy (as := [.ref (gMt γ n), .ref xi, .null]) rfl rfl (rp_P hC) rfl rfl (w_nbY hl hC hM9 hh ha hy hno hxS hKi ht hln (lo := none) kLv_none hb9) (by decide) (by decide) (Nat.zero_le _) (Nat.zero_le _) (k8 rfl) (fun v h9 hv => ?_) (fun E h9 z => z.elim)
        obtain ⟨hv1, hv2⟩ := hv
        subst hv1
        rw [hv2]
        refine k_st (st' := []) rfl ?_
        refine k_iinc (a := ((i : Nat) : Int)) (pc1 := 27) dX5_planDates_24 rfl rfl (by decide) (k_loc (L' := [some (.ref pl), some (.ref (gMt γ n)), some (.ref sl), some (.int (iI (((i : Nat) : Int) + 1))), none, none, none]) rfl ?_)
        refine k_goto dX5_planDates_27 (tgt := 2) rfl ?_
        exact ih2 _ (by omega) (i + 1) rfl (by omega) (fun j hj => if e : j = i then (by subst e; exact hb9) else hJ j (by omega))
  exact hloop2 _ 0 rfl (by omega) (fun j hj => absurd hj (by omega))
