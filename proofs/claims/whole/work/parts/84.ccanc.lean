/-! ===== the class: cancel, remove, walked ===== -/
section KRM
variable {G : kG} {h h' : kAH} {pl : Nat} {γ : kGh} {A : kAb} {f : Nat → Int}
theorem rl_cn (q : kRp G h pl γ A f) {m d : Int} (hi : inP f m d) {dt : Int → Int → Nat → Int} {dx : Int → List (Int × Int)} (hdt : ∀ i j : Int, ¬ (i = oF f m 0 ∧ j = d) → ∀ w : Nat, dt i j w = aDt A i j w)
    (hdn : dt (oF f m 0) d 0 = aDt A (oF f m 0) d 0 ∧ dt (oF f m 0) d 1 = aDt A (oF f m 0) d 1 ∧ dt (oF f m 0) d 2 = 1 ∧ dt (oF f m 0) d 3 = aDt A (oF f m 0) d 3 ∧ dt (oF f m 0) d 4 = aDt A (oF f m 0) d 4)
    (h1 : (dx (aDt A (oF f m 0) d 0)).Sublist (aDx A (aDt A (oF f m 0) d 0))) (hx : ∀ x : Int × Int, x ∈ dx (aDt A (oF f m 0) d 0) ↔ x ∈ aDx A (aDt A (oF f m 0) d 0) ∧ x ≠ (oF f m 0, d)) (h2 : ∀ i : Int, i ≠ aDt A (oF f m 0) d 0 → dx i = aDx A i) :
    kRl (xDD A dt dx) (lyF f m (10 + 4 * d + 2) 1) := by
  obtain ⟨u0, u1, u2, u3, u4⟩ := q.2.1.2.2.2.2.1 m d hi
  obtain ⟨n0, n1, n2, n3, n4⟩ := hdn
  have hd6 := (rp_lv q hi).2.2
  have hd0 := hi.2.2.1
  have e1 : ∀ i j : Int, dt i j 1 = aDt A i j 1 := fun i j => by
    by_cases c : i = oF f m 0 ∧ j = d
    · rw [c.1, c.2]; exact n1
    · exact hdt i j c 1
  refine rl_mv (k' := dF f m d 0) (t' := dF f m d 1) (c' := 1) (r' := dF f m d 3) q hi (fun j hj => ly_lo hi.1 (by omega) hj) (fun m' w a b c => by rw [oF_ly hi.1 (by omega) a (by omega), if_neg (by omega)]) (fun m' d' hi' hne w w0 w1 => ?_) ⟨?_, ?_, ?_, ?_⟩ hdt ⟨n0.trans u0, n1.trans u1, n2, n3.trans u3, n4.trans u4⟩ (fun k k0 k1 => ?_)
  · have h6 := (rp_lv q hi').2.2
    have h7 := hi'.2.2.1
    unfold dF
    rw [oF_ly hi.1 (by omega) hi'.1 (by omega), if_neg (by omega)]
  · unfold dF; rw [oF_ly hi.1 (by omega) hi.1 (by omega), if_neg (by omega)]
  · unfold dF; rw [oF_ly hi.1 (by omega) hi.1 (by omega), if_neg (by omega)]
  · unfold dF; rw [oF_ly hi.1 (by omega) hi.1 (by omega), if_pos ⟨rfl, rfl⟩]
  · unfold dF; rw [oF_ly hi.1 (by omega) hi.1 (by omega), if_neg (by omega)]
  · obtain ⟨v1, v2, v3⟩ := q.2.1.2.2.2.2.2 k k0 k1
    by_cases ck : k = aDt A (oF f m 0) d 0
    · rw [ck] at v1 v2 ⊢
      refine ⟨h1.nodup v1, (v2.sublist h1).imp (fun z => by rw [e1, e1]; exact z), fun x => ⟨fun y => Or.inl ((hx x).mp y), fun y => ?_⟩⟩
      rcases y with y | ⟨-, y, -⟩
      · exact (hx x).mpr y
      · exact absurd y (by decide)
    · rw [h2 k ck]
      refine ⟨v1, v2.imp (fun z => by rw [e1, e1]; exact z), fun x => ⟨fun y => Or.inl ⟨y, fun e => ?_⟩, fun y => ?_⟩⟩
      · obtain ⟨m', w1, w2, w3, w4⟩ := (v3 x).mp y
        rw [e] at w1 w2 w4
        have em := rp_num q w1.1 w1.2.1 hi.1 hi.2.1 w2.symm
        rw [em] at w4
        exact ck (w4.symm.trans u0.symm)
      · rcases y with y | ⟨-, y, -⟩
        · exact y.1
        · exact absurd y (by decide)
theorem rl_rv (q : kRp G h pl γ A f) {p : Int} (hp : 0 ≤ p ∧ p < f 1) {dx : Int → List (Int × Int)} (hx : ∀ k : Int, 0 ≤ k → k < 28 → (dx k).Sublist (aDx A k) ∧ ∀ x : Int × Int, x ∈ dx k ↔ x ∈ aDx A k ∧ ¬ (x.1 = oF f p 0 ∧ x.2 < oF f p 3)) :
    kRl (xMl (xDx A dx) ((aMl A).eraseIdx p.toNat)) (rvF f p) := by
  have h8 := kWf_cnt q.2.2
  have lo : ∀ j : Nat, j < 20 → rvF f p j = if j = 1 then f 1 - 1 else f j := fun j hj => rv_lo hp.1 hj
  have l1 : rvF f p 1 = f 1 - 1 := lo 1 (by decide)
  have ro : ∀ m w : Int, 0 ≤ m → m < f 1 - 1 → 0 ≤ w → w < 40 → oF (rvF f p) m w = oF f (if m < p then m else m + 1) w := fun m w a b c e => rv_oF hp h8.2 a b ⟨c, e⟩
  obtain ⟨⟨z10, z11, z12, z13⟩, z2, z3, z4, z5, z6⟩ := q.2.1
  have hin : ∀ m d : Int, inP (rvF f p) m d → inP f (if m < p then m else m + 1) d ∧ 0 ≤ m ∧ m < f 1 - 1 := fun m d hi => by
    obtain ⟨a, b, c, e⟩ := hi
    rw [l1] at b
    rw [ro m 3 a b (by decide) (by decide)] at e
    refine ⟨⟨?_, ?_, c, e⟩, a, b⟩ <;> split <;> omega
  refine ⟨⟨?_, ?_, ?_, ?_⟩, fun r r0 r1 => ?_, ?_, fun m m0 m1 => ?_, fun m d hi => ?_, fun k k0 k1 => ?_⟩
  · rw [lo 0 (by decide)]; exact z10
  · rw [lo 2 (by decide)]; exact z11
  · rw [lo 3 (by decide)]; exact z12
  · rw [lo 4 (by decide)]; exact z13
  · rw [lo _ (by omega), lo _ (by omega), if_neg (by omega), if_neg (by omega)]
    exact z2 r r0 r1
  · show (aMl A).eraseIdx p.toNat = _
    rw [z3, l1]
    refine List.ext_getElem? fun i => ?_
    rw [List.getElem?_eraseIdx, List.getElem?_map, List.getElem?_map, List.getElem?_map]
    by_cases ci : i < (f 1 - 1).toNat
    · rw [List.getElem?_range ci, List.getElem?_range (show i < (f 1).toNat by omega), List.getElem?_range (show i + 1 < (f 1).toNat by omega)]
      show (if i < p.toNat then some (oF f (i : Int) 0) else some (oF f ((i + 1 : Nat) : Int) 0)) = some (oF (rvF f p) (i : Int) 0)
      rw [ro (i : Int) 0 (by omega) (by omega) (by decide) (by decide)]
      by_cases c2 : i < p.toNat
      · rw [if_pos c2, if_pos (by omega)]
      · rw [if_neg c2, if_neg (by omega)]; rfl
    · rw [List.getElem?_eq_none (l := List.range (f 1 - 1).toNat) (by rw [List.length_range]; omega), List.getElem?_eq_none (l := List.range (f 1).toNat) (i := i + 1) (by rw [List.length_range]; omega), if_neg (by omega)]
      rfl
  · rw [l1] at m1
    have hg : 0 ≤ (if m < p then m else m + 1) ∧ (if m < p then m else m + 1) < f 1 := by constructor <;> split <;> omega
    have e1 : kmk (fun i : Nat => oF (rvF f p) m (4 + (i : Int)) ≠ 45) 6 = kmk (fun (i : Nat) => oF f (if m < p then m else m + 1) (4 + (i : Int)) ≠ 45) 6 := kmk_cg fun i hi => by rw [ro m _ m0 m1 (by omega) (by omega)]
    have e2 : kmk (fun i : Nat => oF (rvF f p) m (4 + (i : Int)) = 121) 6 = kmk (fun (i : Nat) => oF f (if m < p then m else m + 1) (4 + (i : Int)) = 121) 6 := kmk_cg fun i hi => by rw [ro m _ m0 m1 (by omega) (by omega)]
    have e3 : kmk (fun i : Nat => oF (rvF f p) m (4 + (i : Int)) = 110) 6 = kmk (fun (i : Nat) => oF f (if m < p then m else m + 1) (4 + (i : Int)) = 110) 6 := kmk_cg fun i hi => by rw [ro m _ m0 m1 (by omega) (by omega)]
    rw [ro m 0 m0 m1 (by decide) (by decide), ro m 1 m0 m1 (by decide) (by decide), ro m 3 m0 m1 (by decide) (by decide), e1, e2, e3]
    exact z4 _ hg.1 hg.2
  · obtain ⟨hi2, m0, m1⟩ := hin m d hi
    have h6 := (rp_lv q hi2).2.2
    have h7 := hi2.2.2.1
    unfold dF
    rw [ro m 0 m0 m1 (by decide) (by decide), ro m 2 m0 m1 (by decide) (by decide), ro m _ m0 m1 (by omega) (by omega), ro m _ m0 m1 (by omega) (by omega), ro m _ m0 m1 (by omega) (by omega), ro m _ m0 m1 (by omega) (by omega)]
    exact z5 _ d hi2
  · obtain ⟨u1, u2⟩ := hx k k0 k1
    obtain ⟨v1, v2, v3⟩ := z6 k k0 k1
    refine ⟨u1.nodup v1, v2.sublist u1, fun x => (u2 x).trans ⟨?_, ?_⟩⟩
    · rintro ⟨y1, y2⟩
      obtain ⟨m', w1, w2, w3, w4⟩ := (v3 x).mp y1
      have hne : m' ≠ p := fun e => y2 ⟨by rw [w2, e], by rw [← e]; exact w1.2.2.2⟩
      have h6 := (rp_lv q w1).2.2
      have h7 := w1.2.2.1
      have h9 := w1.1
      have h10 := w1.2.1
      have h11 := w1.2.2.2
      obtain ⟨j, ej, j0, j1⟩ : ∃ j : Int, (if j < p then j else j + 1) = m' ∧ 0 ≤ j ∧ j < f 1 - 1 := by
        by_cases c : m' < p
        · exact ⟨m', if_pos c, h9, by omega⟩
        · exact ⟨m' - 1, by rw [if_neg (by omega)]; omega, by omega, by omega⟩
      refine ⟨j, ⟨j0, by rw [l1]; exact j1, h7, by rw [ro j 3 j0 j1 (by decide) (by decide), ej]; exact h11⟩, by rw [ro j 0 j0 j1 (by decide) (by decide), ej]; exact w2, ?_, ?_⟩
      · unfold onF dF at w3 ⊢
        rw [ro j _ j0 j1 (by omega) (by omega), ej]; exact w3
      · unfold dF at w4 ⊢
        rw [ro j _ j0 j1 (by omega) (by omega), ej]; exact w4
    · rintro ⟨m', w1, w2, w3, w4⟩
      obtain ⟨hi2, m0, m1⟩ := hin m' x.2 w1
      have h6 := (rp_lv q hi2).2.2
      have h7 := hi2.2.2.1
      rw [ro m' 0 m0 m1 (by decide) (by decide)] at w2
      unfold onF dF at w3
      unfold dF at w4
      rw [ro m' _ m0 m1 (by omega) (by omega)] at w3 w4
      refine ⟨(v3 x).mpr ⟨_, hi2, w2, w3, w4⟩, fun z => ?_⟩
      have e := rp_num q hi2.1 hi2.2.1 hp.1 hp.2 (w2.symm.trans z.1)
      by_cases c : m' < p
      · rw [if_pos c] at e; omega
      · rw [if_neg c] at e; omega
end KRM
theorem w_X5_cancel {l : Launch} {G : kG} {h : kAH} (hl : l.stackTraces = false) {pl : Nat} {γ : kGh} {A : kAb} {f : Nat → Int} (hC : kRp G h pl γ A f) {n x : Int} (rn : -2147483648 ≤ n ∧ n < 2147483648) (rx : -2147483648 ≤ x ∧ x < 2147483648) : kC l G m_X5_cancel 6 1 6 [.ref pl, .int (iI n), .int (iI x)] h (kOy G pl γ h (Tcancel f n x)) (kOn G pl γ h (Tcancel f n x) ["", "java/util/NoSuchElementException", "java/lang/IndexOutOfBoundsException", "java/lang/IllegalStateException"]) := by
  have h8 := kWf_cnt hC.2.2
  refine kC_of hl rfl rfl (Nat.le_of_ble_eq_true rfl) (L := [some (.ref pl), some (.int (iI n)), some (.int (iI x)), none, none]) rfl ?_
  refine k_aload_n (pc1 := 1) dX5_cancel_0 rfl rfl ?_
  refine k_iload_n (pc1 := 2) dX5_cancel_1 rfl rfl ?_
  by_cases hn2 : atF f n < 0
  · skip
    refine k_callV dX5_cancel_2 rfl lk_RX5_97 o_X5_meetingWith (as := [.int (iI n)]) rfl rfl (rp_P hC) rfl rfl (w_mwN hl hC (by omega) hn2) (by decide) (by decide) (by decide) (by decide) (k8 rfl) (fun v h9 z => z.elim) (fun E h9 z => kx_out rfl ?_)
    obtain ⟨hv1, hv2⟩ := z
    subst hv1
    rw [hv2]
    exact (kOn_mk (c := 1) (v := 0) (f' := f) (by unfold Tcancel; first | exact kI_t (by omega) | (rw [kI_f (by omega)]; first | exact kI_f (by omega) | (rw [kI_t (by omega)]; first | exact kI_f (by assumption) | exact kI_t (by assumption)))) (by decide) rfl (kSt_rf hC))
  · skip
    refine k_callVP dX5_cancel_2 rfl lk_RX5_97 o_X5_meetingWith (w_mwY hl hC (by omega) hn2) (as := [.int (iI n)]) (rp_P hC) rfl rfl rfl rfl (by decide) (by decide) (k8 rfl) ?_
    have h8 := kWf_cnt hC.2.2
    have hat := atF_r (f := f) (n := n) h8.1
    have hmm := kWf_m hC.2.2 (m := (atF f n)) (by omega) (by omega)
    have hmx := rp_Mx hC (m := (atF f n)) (by omega) (by omega)
    obtain ⟨arE, cE, hMd⟩ := rp_Md hC (m := (atF f n)) (by omega) (by omega)
    obtain ⟨mcE, hMe⟩ := hMd.1
    refine k_astore_n (pc1 := 6) dX5_cancel_5 rfl (by decide) (k_loc (L' := [some (.ref pl), some (.int (iI n)), some (.int (iI x)), some (.ref (gMt γ (oF f (atF f n) 0))), none]) rfl ?_)
    refine k_aload_n (pc1 := 7) dX5_cancel_6 rfl rfl ?_
    refine k_iload_n (pc1 := 8) dX5_cancel_7 rfl rfl ?_
    by_cases hd8 : 0 ≤ x ∧ x < oF f (atF f n) 3
    · skip
      by_cases ho8 : onF f (atF f n) x
      · skip
        refine k_callSP dX5_cancel_8 rfl lk_RX5_172 o_X5_standingDateWith (w_swY hl hC (m := (atF f n)) (by omega) (by omega) (x := x) ⟨by omega, by omega⟩ ho8) (as := [.ref (gMt γ (oF f (atF f n) 0)), .int (iI x)]) rfl rfl rfl (by decide) (by decide) (k8 rfl) ?_
        have hi : inP f (atF f n) x := ⟨by omega, by omega, by omega, by omega⟩
        have hmd := kWf_d hC.2.2 hi.1 hi.2.1 hi.2.2.1 hi.2.2.2
        refine k_astore (pc1 := 13) dX5_cancel_11 rfl (by decide) (k_loc (L' := [some (.ref pl), some (.int (iI n)), some (.int (iI x)), some (.ref (gMt γ (oF f (atF f n) 0))), some (.ref (gDt γ (oF f (atF f n) 0) x))]) rfl ?_)
        refine k_aload_n (pc1 := 14) dX5_cancel_13 rfl rfl ?_
        refine k_aload (pc1 := 16) dX5_cancel_14 rfl rfl ?_
        have hlv := rp_lv hC hi
        have hqd := hC.2.1.2.2.2.2.1 (atF f n) x hi
        have hk0 : 0 ≤ aDt A (oF f (atF f n) 0) x 0 := by rw [hqd.1]; omega
        have hk1 : aDt A (oF f (atF f n) 0) x 0 < 28 := by rw [hqd.1]; omega
        refine k_callV dX5_cancel_16 rfl lk_RX5_135 o_X5_takeOffItsDay (as := [.ref (gDt γ (oF f (atF f n) 0) x)]) rfl rfl hC.1.1.1 rfl rfl (w_offD hl hC.1 hlv.1 hi.2.2.1 hlv.2.1 hlv.2.2 hk0 hk1 (rp_do hC hk0 hk1) (by decide)) (by decide) (by decide) (Nat.zero_le _) (Nat.zero_le _) (k8 rfl) (fun v h1 hv => ?_) (fun E h9 z => z.elim)
        obtain ⟨hv1, ow1, xs1, hR1, hs1, hx1, hu1⟩ := hv
        subst hv1
        refine k_st (st' := []) rfl ?_
        obtain ⟨hDc, hDo⟩ := (hR1.2.2.2.2.2.2.2.1 (oF f (atF f n) 0) x hlv.1 hi.2.2.1 hlv.2.1 hlv.2.2).1
        refine k_aload (pc1 := 21) dX5_cancel_19 rfl rfl ?_
        refine k_iconst (pc1 := 22) dX5_cancel_21 rfl ?_
        refine k_put (pc1 := 25) dX5_cancel_22 rfl fp_RX5_175 (Or.inl rfl) hDc (Nat.le_of_ble_eq_true rfl) rfl rfl ?_
        obtain ⟨h52, eh52⟩ : ∃ z, z = kup h1 (gDt γ (oF f (atF f n) 0) x) (.inr (4, [.ref (gMt γ (oF f (atF f n) 0)), .ref (gSt γ (oF f (atF f n) 0) x), .ref (gRm γ (aDt A (oF f (atF f n) 0) x 3)), .int (iI 1)])) := ⟨_, rfl⟩
        refine k_hp (h' := h52) eh52.symm ?_
        have hT52 : h52 (gDt γ (oF f (atF f n) 0) x) = some (.inr (4, [.ref (gMt γ (oF f (atF f n) 0)), .ref (gSt γ (oF f (atF f n) 0) x), .ref (gRm γ (aDt A (oF f (atF f n) 0) x 3)), .int (iI 1)])) := by rw [eh52]; exact kup_same _ _ _
        have hG52 : ∀ b, b ≠ (gDt γ (oF f (atF f n) 0) x) → h52 b = h1 b := fun b hb => by rw [eh52]; exact kup_ne hb
        clear eh52
        refine k_aload_n (pc1 := 26) dX5_cancel_25 rfl rfl ?_
        have hw : kWf (lyF f (atF f n) (10 + 4 * x + 2) 1) := by
          have z := wf_cancel hC.2.2 n x
          rw [Tcancel, kI_f (by omega), kI_t (by omega), kI_t (by assumption)] at z
          exact z
        have hR2 := ra_D (γ := (ow1, γ.2)) (A := xDx A (fun i => if i = aDt A (oF f (atF f n) 0) x 0 then xs1 else aDx A i)) (r := aDt A (oF f (atF f n) 0) x 3) (x := 1) hlv.1 hi.2.2.1 hlv.2.1 hlv.2.2 hR1 hG52 hT52
        have hL : kRl _ (lyF f (atF f n) (10 + 4 * x + 2) 1) := rl_cn hC hi (dt := fun i j w => if i = (oF f (atF f n) 0) ∧ j = x ∧ w = 3 then aDt A (oF f (atF f n) 0) x 3 else if i = (oF f (atF f n) 0) ∧ j = x ∧ w = 2 then 1 else aDt A i j w) (dx := fun i => if i = aDt A (oF f (atF f n) 0) x 0 then xs1 else aDx A i) (fun i j hne w => (if_neg (fun z => hne ⟨z.1, z.2.1⟩)).trans (if_neg (fun z => hne ⟨z.1, z.2.1⟩))) ⟨(if_neg (by omega)).trans (if_neg (by omega)), (if_neg (by omega)).trans (if_neg (by omega)), (if_neg (by omega)).trans (if_pos ⟨rfl, rfl, rfl⟩), if_pos ⟨rfl, rfl, rfl⟩, (if_neg (by omega)).trans (if_neg (by omega))⟩ (by rw [if_pos rfl]; exact hs1) (fun q => by rw [if_pos rfl]; exact hx1 q) (fun i hi => if_neg hi)
        have hC2 : kRp G h52 pl (ow1, γ.2) _ (lyF f (atF f n) (10 + 4 * x + 2) 1) := ⟨hR2, hL, hw⟩
        have l1 : (lyF f (atF f n) (10 + 4 * x + 2) 1) 1 = f 1 := ly_lo (by omega) (by omega) (by decide)
        have e0 : oF (lyF f (atF f n) (10 + 4 * x + 2) 1) (atF f n) 0 = oF f (atF f n) 0 := by rw [oF_ly (by omega) (by omega) (by omega) (by omega), if_neg (by omega)]
        have hcon := w_msd hl hC2 (m := (atF f n)) (by omega) (by omega)
        rw [e0] at hcon
        have hmc := rp_M hC2 (m := (atF f n)) (by omega) (by omega)
        rw [e0] at hmc
        refine k_callVP dX5_cancel_26 rfl lk_RX5_179 o_X2_standingDates hcon (as := []) hmc rfl rfl rfl rfl (by decide) (by decide) (k8 rfl) ?_
        refine k_val (v' := .int (iI (sdF (lyF f (atF f n) (10 + 4 * x + 2) 1) (atF f n)))) rfl ?_
        exact k_iret dX5_cancel_29 rfl rfl (kOy_mk (v := (sdF (lyF f (atF f n) (10 + 4 * x + 2) 1) (atF f n))) (f' := (lyF f (atF f n) (10 + 4 * x + 2) 1)) (by unfold Tcancel; first | exact kI_t (by omega) | (rw [kI_f (by omega)]; first | exact kI_f (by omega) | (rw [kI_t (by omega)]; first | exact kI_f (by assumption) | exact kI_t (by assumption)))) ⟨(ow1, γ.2), _, hC2, fun b e g1 g2 => ⟨(hG52 b (fun c => by have u := (hu1 b e g1 g2).2; rw [c] at u; exact absurd (hDo.symm.trans u) (by simp))).trans (hu1 b e g1 g2).1, (hu1 b e g1 g2).2⟩⟩)
      · skip
        refine k_callS dX5_cancel_8 rfl rfl lk_RX5_172 o_X5_standingDateWith (as := [.ref (gMt γ (oF f (atF f n) 0)), .int (iI x)]) rfl rfl (w_swC hl hC (m := (atF f n)) (by omega) (by omega) (x := x) ⟨by omega, by omega⟩ ho8) (by decide) (by decide) (by decide) (by decide) (k8 rfl) (fun v h9 z => z.elim) (fun E h9 z => kx_out rfl ?_)
        obtain ⟨hv1, hv2⟩ := z
        subst hv1
        rw [hv2]
        exact (kOn_mk (c := 3) (v := 0) (f' := f) (by unfold Tcancel; first | exact kI_t (by omega) | (rw [kI_f (by omega)]; first | exact kI_f (by omega) | (rw [kI_t (by omega)]; first | exact kI_f (by assumption) | exact kI_t (by assumption)))) (by decide) rfl (kSt_rf hC))
    · skip
      refine k_callS dX5_cancel_8 rfl rfl lk_RX5_172 o_X5_standingDateWith (as := [.ref (gMt γ (oF f (atF f n) 0)), .int (iI x)]) rfl rfl (w_swN hl hC (m := (atF f n)) (by omega) (by omega) (x := x) (by omega) hd8) (by decide) (by decide) (by decide) (by decide) (k8 rfl) (fun v h9 z => z.elim) (fun E h9 z => kx_out rfl ?_)
      obtain ⟨hv1, hv2⟩ := z
      subst hv1
      rw [hv2]
      exact (kOn_mk (c := 2) (v := 0) (f' := f) (by unfold Tcancel; first | exact kI_t (by omega) | (rw [kI_f (by omega)]; first | exact kI_f (by omega) | (rw [kI_t (by omega)]; first | exact kI_f (by assumption) | exact kI_t (by assumption)))) (by decide) rfl (kSt_rf hC))
