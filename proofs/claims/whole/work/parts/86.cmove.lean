/-! ===== the class: move, walked ===== -/
theorem w_onD2 {l : Launch} {G : kG} {h : kAH} (hl : l.stackTraces = false) {pl : Nat} {γ : kGh} {A : kAb} (hR : kRA G h pl γ A) {n d k : Int} (hk : aDt A n d 0 = k) (hn : aLv A n) (d0 : 0 ≤ d) (d1 : d < (aMn A n : Int)) (d2 : d < 6) (hk0 : 0 ≤ k) (hk1 : k < 28) {N : Nat} (ho : kDo A (aDx A k) N) (hN : N ≤ 100) (hnew : (n, d) ∉ aDx A k) (ht : 0 ≤ aDt A n d 1 ∧ aDt A n d 1 ≤ 100) : kC l G m_X5_putOnItsDay 8 1 200 [.ref pl, .ref (gDt γ n d)] h (fun v h' => v = none ∧ ∃ (ow' : Nat → Nat × Nat) (xs' : List (Int × Int)), kRA G h' pl (ow', γ.2) (xDx A (fun i => if i = k then xs' else aDx A i)) ∧ kDo A xs' (N + 1) ∧ (∀ q : Int × Int, q ∈ xs' ↔ q = (n, d) ∨ q ∈ aDx A k) ∧ kUt γ ow' h h') kNo := by
  subst hk
  exact w_onD hl hR hn d0 d1 d2 hk0 hk1 ho hN hnew ht
theorem do_dt {A : kAb} {xs : List (Int × Int)} {M : Nat} {n d a b x r c : Int} {dx : Int → List (Int × Int)} (z : kDo A xs M) (hne : ∀ q ∈ xs, q ≠ (n, d)) : kDo (xDD A (dDt A n d a b x r c) dx) xs M := by
  have e : ∀ q ∈ xs, dDt A n d a b x r c q.1 q.2 1 = aDt A q.1 q.2 1 := fun q hq => dDt_ne (fun y => hne q hq (Prod.ext y.1 y.2))
  refine ⟨z.1, z.2.1, z.2.2.1.imp_of_mem (fun {q q'} hq hq' y => ?_), fun q hq => ?_⟩
  · show dDt A n d a b x r c q.1 q.2 1 ≤ dDt A n d a b x r c q'.1 q'.2 1
    rw [e q hq, e q' hq']
    exact y
  · obtain ⟨y1, y2, y3, y4, y5, y6⟩ := z.2.2.2 q hq
    refine ⟨y1, y2, y3, y4, ?_, ?_⟩
    · show 0 ≤ dDt A n d a b x r c q.1 q.2 1
      rw [e q hq]; exact y5
    · show dDt A n d a b x r c q.1 q.2 1 ≤ 100
      rw [e q hq]; exact y6
section KMV
variable {G : kG} {h h' : kAH} {pl : Nat} {γ : kGh} {A : kAb} {f : Nat → Int}
theorem rp_mem (q : kRp G h pl γ A f) {m d k : Int} (hi : inP f m d) (k0 : 0 ≤ k) (k1 : k < 28) (y : (oF f m 0, d) ∈ aDx A k) : k = aDt A (oF f m 0) d 0 := by
  obtain ⟨m2, w1, w2, w3, w4⟩ := ((q.2.1.2.2.2.2.2 k k0 k1).2.2 _).mp y
  have em := rp_num q w1.1 w1.2.1 hi.1 hi.2.1 w2.symm
  rw [(q.2.1.2.2.2.2.1 m d hi).1, ← w4, em]
theorem mv_d1 (q : kRp G h pl γ A f) {m d : Int} (hi : inP f m d) {xs1 : List (Int × Int)} (hs : xs1.Sublist (aDx A (aDt A (oF f m 0) d 0))) (h1 : ∀ x : Int × Int, x ∈ xs1 ↔ x ∈ aDx A (aDt A (oF f m 0) d 0) ∧ x ≠ (oF f m 0, d)) :
    ∀ i : Int, 0 ≤ i → i < 28 → (if i = aDt A (oF f m 0) d 0 then xs1 else aDx A i).Sublist (aDx A i) ∧ ∀ x : Int × Int, x ∈ (if i = aDt A (oF f m 0) d 0 then xs1 else aDx A i) ↔ x ∈ aDx A i ∧ x ≠ (oF f m 0, d) := by
  intro i i0 i1
  by_cases c : i = aDt A (oF f m 0) d 0
  · rw [if_pos c, c]
    exact ⟨hs, h1⟩
  · rw [if_neg c]
    exact ⟨List.Sublist.refl _, fun x => ⟨fun y => ⟨y, fun e => c (rp_mem q hi i0 i1 (by rw [← e]; exact y))⟩, fun y => y.1⟩⟩
theorem rl_mo (q : kRp G h pl γ A f) {m d k t rm c : Int} (hi : inP f m d) (hc : c = oF f m 2) {dx1 dx0 : Int → List (Int × Int)} {xs2 : List (Int × Int)} {M : Nat} (hd1 : ∀ i : Int, 0 ≤ i → i < 28 → (dx1 i).Sublist (aDx A i) ∧ ∀ x : Int × Int, x ∈ dx1 i ↔ x ∈ aDx A i ∧ x ≠ (oF f m 0, d)) (k0 : 0 ≤ k) (k1 : k < 28)
    (h2 : kDo (xDD A (dDt A (oF f m 0) d k t 0 rm c) dx0) xs2 M) (hx2 : ∀ x : Int × Int, x ∈ xs2 ↔ x = (oF f m 0, d) ∨ x ∈ dx1 k) : kRl (xDD A (dDt A (oF f m 0) d k t 0 rm c) (fun i => if i = k then xs2 else dx1 i)) (dtF f m d k t rm) := by
  have hd6 := (rp_lv q hi).2.2
  have hd0 := hi.2.2.1
  have ro : ∀ m' w : Int, 0 ≤ m' → 0 ≤ w → w < 40 → oF (dtF f m d k t rm) m' w = if m' = m ∧ w = 10 + 4 * d + 3 then rm else if m' = m ∧ w = 10 + 4 * d + 2 then 0 else if m' = m ∧ w = 10 + 4 * d + 1 then t else if m' = m ∧ w = 10 + 4 * d + 0 then k else oF f m' w := fun m' w a b e => dt_oF hi.1 ⟨hd0, hd6⟩ a ⟨b, e⟩
  refine rl_mv (k' := k) (t' := t) (c' := 0) (r' := rm) q hi (fun j hj => dt_lo hi.1 hd0 hj) (fun m' w a b e => by rw [ro m' w a b (by omega), if_neg (by omega), if_neg (by omega), if_neg (by omega), if_neg (by omega)]) (fun m' d' hi' hne w w0 w1 => ?_) ⟨?_, ?_, ?_, ?_⟩ (fun i j hne w => dDt_ne hne) (by obtain ⟨v0, v1, v2, v3, v4⟩ := dDt_at (A := A) (n := oF f m 0) (d := d) (a := k) (b := t) (x := 0) (r := rm) (c := c); exact ⟨v0, v1, v2, v3, v4.trans hc⟩) (fun i i0 i1 => ?_)
  · have h6 := (rp_lv q hi').2.2
    have h7 := hi'.2.2.1
    unfold dF
    rw [ro m' _ hi'.1 (by omega) (by omega), if_neg (by omega), if_neg (by omega), if_neg (by omega), if_neg (by omega)]
  · unfold dF; rw [ro m _ hi.1 (by omega) (by omega), if_neg (by omega), if_neg (by omega), if_neg (by omega), if_pos ⟨rfl, rfl⟩]
  · unfold dF; rw [ro m _ hi.1 (by omega) (by omega), if_neg (by omega), if_neg (by omega), if_pos ⟨rfl, rfl⟩]
  · unfold dF; rw [ro m _ hi.1 (by omega) (by omega), if_neg (by omega), if_pos ⟨rfl, rfl⟩]
  · unfold dF; rw [ro m _ hi.1 (by omega) (by omega), if_pos ⟨rfl, rfl⟩]
  · obtain ⟨u1, u2⟩ := hd1 i i0 i1
    obtain ⟨v1, v2, -⟩ := q.2.1.2.2.2.2.2 i i0 i1
    by_cases ci : i = k
    · subst ci
      show (if i = i then xs2 else dx1 i).Nodup ∧ (if i = i then xs2 else dx1 i).Pairwise _ ∧ ∀ x : Int × Int, x ∈ (if i = i then xs2 else dx1 i) ↔ _
      rw [if_pos rfl]
      refine ⟨h2.1, h2.2.2.1, fun x => (hx2 x).trans ⟨?_, ?_⟩⟩
      · rintro (y | y)
        · exact Or.inr ⟨y, rfl, rfl⟩
        · exact Or.inl ((u2 x).mp y)
      · rintro (y | ⟨y, -, -⟩)
        · exact Or.inr ((u2 x).mpr y)
        · exact Or.inl y
    · show (if i = k then xs2 else dx1 i).Nodup ∧ (if i = k then xs2 else dx1 i).Pairwise _ ∧ ∀ x : Int × Int, x ∈ (if i = k then xs2 else dx1 i) ↔ _
      rw [if_neg ci]
      refine ⟨u1.nodup v1, (v2.sublist u1).imp_of_mem (fun {a b} ha hb y => ?_), fun x => (u2 x).trans ⟨fun y => Or.inl y, ?_⟩⟩
      · have ea := ((u2 a).mp ha).2
        have eb := ((u2 b).mp hb).2
        rw [dDt_ne (fun y => ea (Prod.ext y.1 y.2)), dDt_ne (fun y => eb (Prod.ext y.1 y.2))]
        exact y
      · rintro (y | ⟨-, -, y⟩)
        · exact y
        · exact absurd y.symm ci
end KMV
theorem w_X5_move {l : Launch} {G : kG} {h : kAH} (hl : l.stackTraces = false) {pl : Nat} {γ : kGh} {A : kAb} {f : Nat → Int} (hC : kRp G h pl γ A f) {n x k t : Int} (rn : -2147483648 ≤ n ∧ n < 2147483648) (rx : -2147483648 ≤ x ∧ x < 2147483648) (rk : -2147483648 ≤ k ∧ k < 2147483648) (rt : -2147483648 ≤ t ∧ t < 2147483648) : kC l G m_X5_move 9 3 220 [.ref pl, .int (iI n), .int (iI x), .int (iI k), .int (iI t)] h (kOy G pl γ h (Tmove f n x k t)) (kOn G pl γ h (Tmove f n x k t) ["", "java/util/NoSuchElementException", "java/lang/IndexOutOfBoundsException", "java/lang/IllegalArgumentException", "java/lang/UnsupportedOperationException"]) := by
  have h8 := kWf_cnt hC.2.2
  refine kC_of hl rfl rfl (Nat.le_of_ble_eq_true rfl) (L := [some (.ref pl), some (.int (iI n)), some (.int (iI x)), some (.int (iI k)), some (.int (iI t)), none, none, none, none]) rfl ?_
  refine k_aload_n (pc1 := 1) dX5_move_0 rfl rfl ?_
  refine k_iload_n (pc1 := 2) dX5_move_1 rfl rfl ?_
  by_cases hn2 : atF f n < 0
  · skip
    refine k_callV dX5_move_2 rfl lk_RX5_97 o_X5_meetingWith (as := [.int (iI n)]) rfl rfl (rp_P hC) rfl rfl (w_mwN hl hC (by omega) hn2) (by decide) (by decide) (by decide) (by decide) (k8 rfl) (fun v h9 z => z.elim) (fun E h9 z => kx_out rfl ?_)
    obtain ⟨hv1, hv2⟩ := z
    subst hv1
    rw [hv2]
    exact (kOn_mk (c := 1) (v := 0) (f' := f) (by unfold Tmove; first | exact kI_t (by omega) | (rw [kI_f (by omega)]; first | exact kI_f (by omega) | (rw [kI_t (by omega)]; first | exact kI_f (by omega) | (rw [kI_t (by omega)]; first | exact kI_t (by omega) | (rw [kI_f (by omega)]; first | exact kI_t (by omega) | exact kI_f (by omega)))))) (by decide) rfl (kSt_rf hC))
  · skip
    refine k_callVP dX5_move_2 rfl lk_RX5_97 o_X5_meetingWith (w_mwY hl hC (by omega) hn2) (as := [.int (iI n)]) (rp_P hC) rfl rfl rfl rfl (by decide) (by decide) (k8 rfl) ?_
    have h8 := kWf_cnt hC.2.2
    have hat := atF_r (f := f) (n := n) h8.1
    have hmm := kWf_m hC.2.2 (m := (atF f n)) (by omega) (by omega)
    have hmx := rp_Mx hC (m := (atF f n)) (by omega) (by omega)
    obtain ⟨arE, cE, hMd⟩ := rp_Md hC (m := (atF f n)) (by omega) (by omega)
    obtain ⟨mcE, hMe⟩ := hMd.1
    refine k_astore (pc1 := 7) dX5_move_5 rfl (by decide) (k_loc (L' := [some (.ref pl), some (.int (iI n)), some (.int (iI x)), some (.int (iI k)), some (.int (iI t)), some (.ref (gMt γ (oF f (atF f n) 0))), none, none, none]) rfl ?_)
    refine k_aload (pc1 := 9) dX5_move_7 rfl rfl ?_
    refine k_iload_n (pc1 := 10) dX5_move_9 rfl rfl ?_
    by_cases hd10 : 0 ≤ x ∧ x < oF f (atF f n) 3
    · skip
      refine k_callSP dX5_move_10 rfl lk_RX5_104 o_X5_dateWith (w_dwY hl hC (m := (atF f n)) (by omega) (by omega) (x := x) ⟨by omega, by omega⟩) (as := [.ref (gMt γ (oF f (atF f n) 0)), .int (iI x)]) rfl rfl rfl (by decide) (by decide) (k8 rfl) ?_
      have hi : inP f (atF f n) x := ⟨by omega, by omega, by omega, by omega⟩
      have hmd := kWf_d hC.2.2 hi.1 hi.2.1 hi.2.2.1 hi.2.2.2
      refine k_astore (pc1 := 15) dX5_move_13 rfl (by decide) (k_loc (L' := [some (.ref pl), some (.int (iI n)), some (.int (iI x)), some (.int (iI k)), some (.int (iI t)), some (.ref (gMt γ (oF f (atF f n) 0))), some (.ref (gDt γ (oF f (atF f n) 0) x)), none, none]) rfl ?_)
      refine k_iload_n (pc1 := 16) dX5_move_15 rfl rfl ?_
      refine k_iload (pc1 := 18) dX5_move_16 rfl rfl ?_
      refine k_aload (pc1 := 20) dX5_move_18 rfl rfl ?_
      refine k_get (pc1 := 23) dX5_move_20 rfl fd_RX5_108 (rp_D hC hi) (v := .ref (gSt γ (oF f (atF f n) 0) x)) rfl ?_
      refine k_get (pc1 := 26) dX5_move_23 rfl fd_RX5_125 (rp_S hC hi) (v := .int (iI (oF f (atF f n) 2))) rfl ?_
      by_cases hq26 : 0 ≤ k ∧ k ≤ 27 ∧ 0 ≤ t ∧ t ≤ 15 ∧ 1 ≤ (oF f (atF f n) 2) ∧ (oF f (atF f n) 2) ≤ 6 ∧ t + (oF f (atF f n) 2) ≤ 16
      · skip
        refine k_callS dX5_move_26 rfl rfl lk_RX5_62 o_X5_requireSlot (as := [.int (iI k), .int (iI t), .int (iI (oF f (atF f n) 2))]) rfl rfl (w_rsY hl (by omega) (by omega) (by omega) hq26) (by decide) (by decide) (by decide) (by decide) (k8 rfl) (fun v h9 hv => ?_) (fun E h9 z => z.elim)
        obtain ⟨hv1, hv2⟩ := hv
        subst hv1
        rw [hv2]
        refine k_st (st' := []) rfl ?_
        have hC0 := hC
        refine k_new (pc1 := 32) dX5_move_29 rfl nw_RX5_83 (by decide) (by decide) (fun q hq => ?_)
        replace hC := kRp_xt (kXt_new (e := .inr (8, [.int 0, .int 0, .int 0])) hq) hC
        refine k_dup (pc1 := 33) dX5_move_32 rfl rfl ?_
        refine k_iload_n (pc1 := 34) dX5_move_33 rfl rfl ?_
        refine k_iload (pc1 := 36) dX5_move_34 rfl rfl ?_
        refine k_aload (pc1 := 38) dX5_move_36 rfl rfl ?_
        refine k_get (pc1 := 41) dX5_move_38 rfl fd_RX5_108 (rp_D hC hi) (v := .ref (gSt γ (oF f (atF f n) 0) x)) rfl ?_
        refine k_get (pc1 := 44) dX5_move_41 rfl fd_RX5_125 (rp_S hC hi) (v := .int (iI (oF f (atF f n) 2))) rfl ?_
        refine k_callI dX5_move_44 rfl lk_RX5_85 o_X4_init (as := [.int (iI k), .int (iI t), .int (iI (oF f (atF f n) 2))]) rfl rfl (w_slotI hl (kup_same _ _ _)) (fun E h9 z => z.elim) (by decide) (by decide) (by decide) (by decide) (k8 rfl) (fun v h1 hv => ?_)
        obtain ⟨hv1, hS, hv3⟩ := hv
        subst hv1
        refine k_st (st' := [.ref q]) rfl ?_
        have hfq : ∀ b, b ≠ q → h1 b = h b := fun b hb => (hv3 b hb).trans (kup_ne hb)
        have hX : kXt h h1 := fun b e z => (hfq b (kne_new z hq)).trans z
        replace hC := kRp_xt hX hC0
        clear hv3
        refine k_astore (pc1 := 49) dX5_move_47 rfl (by decide) (k_loc (L' := [some (.ref pl), some (.int (iI n)), some (.int (iI x)), some (.int (iI k)), some (.int (iI t)), some (.ref (gMt γ (oF f (atF f n) 0))), some (.ref (gDt γ (oF f (atF f n) 0) x)), some (.ref q), none]) rfl ?_)
        refine k_aload_n (pc1 := 50) dX5_move_49 rfl rfl ?_
        refine k_aload (pc1 := 52) dX5_move_50 rfl rfl ?_
        refine k_aload (pc1 := 54) dX5_move_52 rfl rfl ?_
        refine k_aload (pc1 := 56) dX5_move_54 rfl rfl ?_
        by_cases hb9 : 0 ≤ (bsyF f (atF f n) x (ppF f (atF f n)) k t (oF f (atF f n) 2))
        · skip
          refine k_callV dX5_move_56 rfl lk_RX5_182 o_X5_requireNobodyBusy (as := [.ref (gMt γ (oF f (atF f n) 0)), .ref q, .ref (gDt γ (oF f (atF f n) 0) x)]) rfl rfl (rp_P hC) rfl rfl (w_nbN hl hC (rp_M hC hi.1 hi.2.1) ⟨by omega, by omega⟩ hmx.1 hmx.2.1 hmx.2.2.1 hS ⟨by omega, by omega⟩ ⟨by omega, by omega⟩ ⟨by omega, by omega⟩ (kLv_of hC hi) (by rw [rp_ex hC hi.1 hi.2.1]; exact hb9)) (by decide) (by decide) (by decide) (by decide) (k8 rfl) (fun v h9 z => z.elim) (fun E h9 z => kx_out rfl ?_)
          obtain ⟨hv1, A1, hC1, hfr1⟩ := z
          subst hv1
          try rw [rp_ex hC hi.1 hi.2.1] at hC1
          exact kOn_mk (c := 4) (v := 0) (f' := rfF f 1 (bsyF f (atF f n) x (ppF f (atF f n)) k t (oF f (atF f n) 2))) (by unfold Tmove; first | exact kI_t (by omega) | (rw [kI_f (by omega)]; first | exact kI_f (by omega) | (rw [kI_t (by omega)]; first | exact kI_f (by omega) | (rw [kI_t (by omega)]; first | exact kI_t (by omega) | (rw [kI_f (by omega)]; first | exact kI_t (by omega) | exact kI_f (by omega)))))) (by decide) rfl ⟨γ, A1, hC1, fun b e g1 g2 => ⟨(hfr1 b (fun c => by rw [c, hC.1.1.2] at g2; cases g2)).trans (hX b e g1), g2⟩⟩
        · skip
          refine k_callV dX5_move_56 rfl lk_RX5_182 o_X5_requireNobodyBusy (as := [.ref (gMt γ (oF f (atF f n) 0)), .ref q, .ref (gDt γ (oF f (atF f n) 0) x)]) rfl rfl (rp_P hC) rfl rfl (w_nbY hl hC (rp_M hC hi.1 hi.2.1) ⟨by omega, by omega⟩ hmx.1 hmx.2.1 hmx.2.2.1 hS ⟨by omega, by omega⟩ ⟨by omega, by omega⟩ ⟨by omega, by omega⟩ (kLv_of hC hi) (by rw [rp_ex hC hi.1 hi.2.1]; exact hb9)) (by decide) (by decide) (Nat.zero_le _) (Nat.zero_le _) (k8 rfl) (fun v h9 hv => ?_) (fun E h9 z => z.elim)
          obtain ⟨hv1, hv2⟩ := hv
          subst hv1
          rw [hv2]
          refine k_st (st' := []) rfl ?_
          refine k_aload_n (pc1 := 60) dX5_move_59 rfl rfl ?_
          refine k_aload (pc1 := 62) dX5_move_60 rfl rfl ?_
          refine k_iload_n (pc1 := 63) dX5_move_62 rfl rfl ?_
          refine k_aload (pc1 := 65) dX5_move_63 rfl rfl ?_
          refine k_aload (pc1 := 67) dX5_move_65 rfl rfl ?_
          by_cases hs9 : (smlF f (atF f n) x (ppF f (atF f n)) k t (oF f (atF f n) 2)) < 0
          · skip
            refine k_callV dX5_move_67 rfl lk_RX5_186 o_X5_requireRoom (as := [.ref (gMt γ (oF f (atF f n) 0)), .int (iI x), .ref q, .ref (gDt γ (oF f (atF f n) 0) x)]) rfl rfl (rp_P hC) rfl rfl (w_rqN hl hC (rp_M hC hi.1 hi.2.1) ⟨by omega, by omega⟩ hmx.1 hmx.2.1 hmx.2.2.1 hS ⟨by omega, by omega⟩ ⟨by omega, by omega⟩ ⟨by omega, by omega⟩ (kLv_of hC hi) (ix := x) ⟨by omega, by omega⟩ (by rw [rp_ex hC hi.1 hi.2.1]; exact hs9)) (by decide) (by decide) (by decide) (by decide) (k8 rfl) (fun v h9 z => z.elim) (fun E h9 z => kx_out rfl ?_)
            obtain ⟨hv1, A1, hC1, hfr1⟩ := z
            subst hv1
            try rw [rp_ex hC hi.1 hi.2.1] at hC1
            exact kOn_mk (c := 4) (v := 0) (f' := rfF f 2 x) (by unfold Tmove; first | exact kI_t (by omega) | (rw [kI_f (by omega)]; first | exact kI_f (by omega) | (rw [kI_t (by omega)]; first | exact kI_f (by omega) | (rw [kI_t (by omega)]; first | exact kI_t (by omega) | (rw [kI_f (by omega)]; first | exact kI_t (by omega) | exact kI_f (by omega)))))) (by decide) rfl ⟨γ, A1, hC1, fun b e g1 g2 => ⟨(hfr1 b (fun c => by rw [c, hC.1.1.2] at g2; cases g2)).trans (hX b e g1), g2⟩⟩
          · skip
            have hsr := smlF_r f (atF f n) x (ppF f (atF f n)) k t (oF f (atF f n) 2)
            refine k_callVP dX5_move_67 rfl lk_RX5_186 o_X5_requireRoom (w_rqY hl hC (rp_M hC hi.1 hi.2.1) ⟨by omega, by omega⟩ hmx.1 hmx.2.1 hmx.2.2.1 hS ⟨by omega, by omega⟩ ⟨by omega, by omega⟩ ⟨by omega, by omega⟩ (kLv_of hC hi) (ix := x) ⟨by omega, by omega⟩ (by rw [rp_ex hC hi.1 hi.2.1]; omega)) (as := [.ref (gMt γ (oF f (atF f n) 0)), .int (iI x), .ref q, .ref (gDt γ (oF f (atF f n) 0) x)]) (rp_P hC) rfl rfl rfl rfl (by decide) (by decide) (k8 rfl) ?_
            refine k_val (v' := .ref (gRm γ (smlF f (atF f n) x (ppF f (atF f n)) k t (oF f (atF f n) 2)))) (by rw [rp_ex hC hi.1 hi.2.1]) ?_
            refine k_astore (pc1 := 72) dX5_move_70 rfl (by decide) (k_loc (L' := [some (.ref pl), some (.int (iI n)), some (.int (iI x)), some (.int (iI k)), some (.int (iI t)), some (.ref (gMt γ (oF f (atF f n) 0))), some (.ref (gDt γ (oF f (atF f n) 0) x)), some (.ref q), some (.ref (gRm γ (smlF f (atF f n) x (ppF f (atF f n)) k t (oF f (atF f n) 2))))]) rfl ?_)
            refine k_aload_n (pc1 := 73) dX5_move_72 rfl rfl ?_
            refine k_aload (pc1 := 75) dX5_move_73 rfl rfl ?_
            have hlv := rp_lv hC hi
            have hqd := hC.2.1.2.2.2.2.1 (atF f n) x hi
            have hk0 : 0 ≤ aDt A (oF f (atF f n) 0) x 0 := by rw [hqd.1]; omega
            have hk1 : aDt A (oF f (atF f n) 0) x 0 < 28 := by rw [hqd.1]; omega
            refine k_callV dX5_move_75 rfl lk_RX5_135 o_X5_takeOffItsDay (as := [.ref (gDt γ (oF f (atF f n) 0) x)]) rfl rfl hC.1.1.1 rfl rfl (w_offD hl hC.1 hlv.1 hi.2.2.1 hlv.2.1 hlv.2.2 hk0 hk1 (rp_do hC hk0 hk1) (by decide)) (by decide) (by decide) (Nat.zero_le _) (Nat.zero_le _) (k8 rfl) (fun v h2 hv => ?_) (fun E h9 z => z.elim)
            obtain ⟨hv1, ow1, xs1, hR1, hs1, hx1, hu1⟩ := hv
            subst hv1
            refine k_st (st' := []) rfl ?_
            obtain ⟨hDc, hDo⟩ := (hR1.2.2.2.2.2.2.2.1 (oF f (atF f n) 0) x hlv.1 hi.2.2.1 hlv.2.1 hlv.2.2).1
            have hqo : gOw γ q = (0, 0) := hC0.1.2.2.2.2.2.2.2.2 q hq
            have huq := hu1 q _ hS hqo
            refine k_aload (pc1 := 80) dX5_move_78 rfl rfl ?_
            refine k_aload (pc1 := 82) dX5_move_80 rfl rfl ?_
            refine k_put (pc1 := 85) dX5_move_82 rfl fp_RX5_108 (Or.inl rfl) hDc (Nat.le_of_ble_eq_true rfl) rfl rfl ?_
            obtain ⟨h53, eh53⟩ : ∃ z, z = kup h2 (gDt γ (oF f (atF f n) 0) x) (.inr (4, [.ref (gMt γ (oF f (atF f n) 0)), .ref q, .ref (gRm γ (aDt A (oF f (atF f n) 0) x 3)), .int (iI (aDt A (oF f (atF f n) 0) x 2))])) := ⟨_, rfl⟩
            refine k_hp (h' := h53) eh53.symm ?_
            have hT53 : h53 (gDt γ (oF f (atF f n) 0) x) = some (.inr (4, [.ref (gMt γ (oF f (atF f n) 0)), .ref q, .ref (gRm γ (aDt A (oF f (atF f n) 0) x 3)), .int (iI (aDt A (oF f (atF f n) 0) x 2))])) := by rw [eh53]; exact kup_same _ _ _
            have hG53 : ∀ b, b ≠ (gDt γ (oF f (atF f n) 0) x) → h53 b = h2 b := fun b hb => by rw [eh53]; exact kup_ne hb
            clear eh53
            refine k_aload (pc1 := 87) dX5_move_85 rfl rfl ?_
            refine k_aload (pc1 := 89) dX5_move_87 rfl rfl ?_
            refine k_put (pc1 := 92) dX5_move_89 rfl fp_RX5_190 (Or.inl rfl) hT53 (Nat.le_of_ble_eq_true rfl) rfl rfl ?_
            obtain ⟨h54, eh54⟩ : ∃ z, z = kup h53 (gDt γ (oF f (atF f n) 0) x) (.inr (4, [.ref (gMt γ (oF f (atF f n) 0)), .ref q, .ref (gRm γ (smlF f (atF f n) x (ppF f (atF f n)) k t (oF f (atF f n) 2))), .int (iI (aDt A (oF f (atF f n) 0) x 2))])) := ⟨_, rfl⟩
            refine k_hp (h' := h54) eh54.symm ?_
            have hT54 : h54 (gDt γ (oF f (atF f n) 0) x) = some (.inr (4, [.ref (gMt γ (oF f (atF f n) 0)), .ref q, .ref (gRm γ (smlF f (atF f n) x (ppF f (atF f n)) k t (oF f (atF f n) 2))), .int (iI (aDt A (oF f (atF f n) 0) x 2))])) := by rw [eh54]; exact kup_same _ _ _
            have hG54 : ∀ b, b ≠ (gDt γ (oF f (atF f n) 0) x) → h54 b = h2 b := fun b hb => by rw [eh54]; exact (kup_ne hb).trans (hG53 b hb)
            clear eh54
            refine k_aload (pc1 := 94) dX5_move_92 rfl rfl ?_
            refine k_iconst (pc1 := 95) dX5_move_94 rfl ?_
            refine k_put (pc1 := 98) dX5_move_95 rfl fp_RX5_175 (Or.inl rfl) hT54 (Nat.le_of_ble_eq_true rfl) rfl rfl ?_
            obtain ⟨h55, eh55⟩ : ∃ z, z = kup h54 (gDt γ (oF f (atF f n) 0) x) (.inr (4, [.ref (gMt γ (oF f (atF f n) 0)), .ref q, .ref (gRm γ (smlF f (atF f n) x (ppF f (atF f n)) k t (oF f (atF f n) 2))), .int (iI 0)])) := ⟨_, rfl⟩
            refine k_hp (h' := h55) eh55.symm ?_
            have hT55 : h55 (gDt γ (oF f (atF f n) 0) x) = some (.inr (4, [.ref (gMt γ (oF f (atF f n) 0)), .ref q, .ref (gRm γ (smlF f (atF f n) x (ppF f (atF f n)) k t (oF f (atF f n) 2))), .int (iI 0)])) := by rw [eh55]; exact kup_same _ _ _
            have hG55 : ∀ b, b ≠ (gDt γ (oF f (atF f n) 0) x) → h55 b = h2 b := fun b hb => by rw [eh55]; exact (kup_ne hb).trans (hG54 b hb)
            clear eh55
            refine k_aload_n (pc1 := 99) dX5_move_98 rfl rfl ?_
            refine k_aload (pc1 := 101) dX5_move_99 rfl rfl ?_
            obtain ⟨ow2, hR2, hu2⟩ := ra_DM (γ := (ow1, γ.2)) (A := (xDx A (fun i => if i = aDt A (oF f (atF f n) 0) x 0 then xs1 else aDx A i))) (r := (smlF f (atF f n) x (ppF f (atF f n)) k t (oF f (atF f n) 2))) (x := 0) hlv.1 hi.2.2.1 hlv.2.1 hlv.2.2 hR1 hG55 hT55 huq.1 huq.2
            have hd1 := mv_d1 hC hi hs1 hx1
            have hdk := hd1 k (by omega) (by omega)
            have hnm : ∀ y ∈ (if k = aDt A (oF f (atF f n) 0) x 0 then xs1 else aDx A k), y ≠ ((oF f (atF f n) 0), x) := fun y hy => ((hdk.2 y).mp hy).2
            obtain ⟨v0, v1, v2, v3, v4⟩ := dDt_at (A := (xDx A (fun i => if i = aDt A (oF f (atF f n) 0) x 0 then xs1 else aDx A i))) (n := (oF f (atF f n) 0)) (d := x) (a := k) (b := t) (x := 0) (r := (smlF f (atF f n) x (ppF f (atF f n)) k t (oF f (atF f n) 2))) (c := oF f (atF f n) 2)
            refine k_callV dX5_move_101 rfl lk_RX5_194 o_X5_putOnItsDay (as := [.ref (gDt γ (oF f (atF f n) 0) x)]) rfl rfl hR2.1.1 rfl rfl (w_onD2 hl hR2 (n := (oF f (atF f n) 0)) (d := x) (k := k) v0 hlv.1 hi.2.2.1 hlv.2.1 hlv.2.2 (by omega) (by omega) (N := 48) (do_dt (do_sub (rp_do hC (by omega) (by omega)) hdk.1) hnm) (by decide) (fun y => hnm _ y rfl) ⟨by rw [show aDt (xDD (xDx A (fun i => if i = aDt A (oF f (atF f n) 0) x 0 then xs1 else aDx A i)) (dDt (xDx A (fun i => if i = aDt A (oF f (atF f n) 0) x 0 then xs1 else aDx A i)) (oF f (atF f n) 0) x k t 0 (smlF f (atF f n) x (ppF f (atF f n)) k t (oF f (atF f n) 2)) (oF f (atF f n) 2)) _) (oF f (atF f n) 0) x 1 = t from v1]; omega, by rw [show aDt (xDD (xDx A (fun i => if i = aDt A (oF f (atF f n) 0) x 0 then xs1 else aDx A i)) (dDt (xDx A (fun i => if i = aDt A (oF f (atF f n) 0) x 0 then xs1 else aDx A i)) (oF f (atF f n) 0) x k t 0 (smlF f (atF f n) x (ppF f (atF f n)) k t (oF f (atF f n) 2)) (oF f (atF f n) 2)) _) (oF f (atF f n) 0) x 1 = t from v1]; omega⟩) (by decide) (by decide) (by decide) (by decide) (k8 rfl) (fun v h6 hv => ?_) (fun E h9 z => z.elim)
            obtain ⟨hv1, ow3, xs2, hR3, ho3, hx3, hu3⟩ := hv
            subst hv1
            refine k_st (st' := []) rfl ?_
            have hw : kWf (dtF f (atF f n) x k t (smlF f (atF f n) x (ppF f (atF f n)) k t (oF f (atF f n) 2))) := by
              have z := wf_move hC.2.2 n x k t
              rw [Tmove, kI_f (by omega), kI_t (by omega), kI_t (by omega), kI_f (by omega), kI_f (by omega)] at z
              exact z
            have hL := rl_mo hC hi (rfl : oF f (atF f n) 2 = oF f (atF f n) 2) hd1 (by omega) (by omega) ho3 hx3
            have hrm := (hR3.2.2.1 (smlF f (atF f n) x (ppF f (atF f n)) k t (oF f (atF f n) 2)) (by omega) (by omega)).1
            refine k_aload (pc1 := 106) dX5_move_104 rfl rfl ?_
            refine k_get (pc1 := 109) dX5_move_106 rfl fd_RX5_197 hrm (v := .int (iI (smlF f (atF f n) x (ppF f (atF f n)) k t (oF f (atF f n) 2)))) rfl ?_
            exact k_iret dX5_move_109 rfl rfl (kOy_mk (v := (smlF f (atF f n) x (ppF f (atF f n)) k t (oF f (atF f n) 2))) (f' := dtF f (atF f n) x k t (smlF f (atF f n) x (ppF f (atF f n)) k t (oF f (atF f n) 2))) (by unfold Tmove; first | exact kI_t (by omega) | (rw [kI_f (by omega)]; first | exact kI_f (by omega) | (rw [kI_t (by omega)]; first | exact kI_f (by omega) | (rw [kI_t (by omega)]; first | exact kI_t (by omega) | (rw [kI_f (by omega)]; first | exact kI_t (by omega) | exact kI_f (by omega)))))) ⟨_, _, ⟨hR3, hL, hw⟩, fun b e g1 g2 => by
              have a1 := hu1 b e (hX b e g1) g2
              have a2 := hu2 b e a1.1 a1.2 (kne_new g1 hq)
              exact hu3 b e a2.1 a2.2⟩)
      · skip
        refine k_callS dX5_move_26 rfl rfl lk_RX5_62 o_X5_requireSlot (as := [.int (iI k), .int (iI t), .int (iI (oF f (atF f n) 2))]) rfl rfl (w_rsN hl (by omega) (by omega) (by omega) hq26) (by decide) (by decide) (by decide) (by decide) (k8 rfl) (fun v h9 z => z.elim) (fun E h9 z => kx_out rfl ?_)
        obtain ⟨hv1, hv2⟩ := z
        subst hv1
        rw [hv2]
        exact (kOn_mk (c := 3) (v := 0) (f' := f) (by unfold Tmove; first | exact kI_t (by omega) | (rw [kI_f (by omega)]; first | exact kI_f (by omega) | (rw [kI_t (by omega)]; first | exact kI_f (by omega) | (rw [kI_t (by omega)]; first | exact kI_t (by omega) | (rw [kI_f (by omega)]; first | exact kI_t (by omega) | exact kI_f (by omega)))))) (by decide) rfl (kSt_rf hC))
    · skip
      refine k_callS dX5_move_10 rfl rfl lk_RX5_104 o_X5_dateWith (as := [.ref (gMt γ (oF f (atF f n) 0)), .int (iI x)]) rfl rfl (w_dwN hl hC (m := (atF f n)) (by omega) (by omega) (x := x) (by omega) hd10) (by decide) (by decide) (by decide) (by decide) (k8 rfl) (fun v h9 z => z.elim) (fun E h9 z => kx_out rfl ?_)
      obtain ⟨hv1, hv2⟩ := z
      subst hv1
      rw [hv2]
      exact (kOn_mk (c := 2) (v := 0) (f' := f) (by unfold Tmove; first | exact kI_t (by omega) | (rw [kI_f (by omega)]; first | exact kI_f (by omega) | (rw [kI_t (by omega)]; first | exact kI_f (by omega) | (rw [kI_t (by omega)]; first | exact kI_t (by omega) | (rw [kI_f (by omega)]; first | exact kI_t (by omega) | exact kI_f (by omega)))))) (by decide) rfl (kSt_rf hC))
