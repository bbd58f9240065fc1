/-! ===== the class: a date taken off its day, put on its day ===== -/
abbrev xDx (A : kAb) (dx : Int → List (Int × Int)) : kAb := (A.1, A.2.1, A.2.2.1, A.2.2.2.1, A.2.2.2.2.1, A.2.2.2.2.2.1, A.2.2.2.2.2.2.1, A.2.2.2.2.2.2.2.1, A.2.2.2.2.2.2.2.2.1, A.2.2.2.2.2.2.2.2.2.1, dx, A.2.2.2.2.2.2.2.2.2.2.2)
-- a list of dates in order: none twice, in the order of their times, each one that there is
def kDo (A : kAb) (xs : List (Int × Int)) (N : Nat) : Prop := xs.Nodup ∧ xs.length ≤ N ∧ xs.Pairwise (fun q q' => aDt A q.1 q.2 1 ≤ aDt A q'.1 q'.2 1) ∧ ∀ q ∈ xs, aLv A q.1 ∧ 0 ≤ q.2 ∧ q.2 < (aMn A q.1 : Int) ∧ q.2 < 6 ∧ 0 ≤ aDt A q.1 q.2 1 ∧ aDt A q.1 q.2 1 ≤ 100
def kUt (γ : kGh) (ow' : Nat → Nat × Nat) (h h' : kAH) : Prop := ∀ (b : Nat) (e : va_E), h b = some e → gOw γ b = (0, 0) → h' b = some e ∧ ow' b = (0, 0)
def kTm (A : kAb) (xs : List (Int × Int)) (j : Nat) : Int := match xs[j]? with
  | some q => aDt A q.1 q.2 1
  | none => 0
theorem kTm_at {A : kAb} {xs : List (Int × Int)} {j : Nat} {q : Int × Int} (e : xs[j]? = some q) : kTm A xs j = aDt A q.1 q.2 1 := by
  unfold kTm
  rw [e]
theorem map_er {α β : Type} (g : α → β) : ∀ (xs : List α) (i : Nat), (xs.map g).eraseIdx i = (xs.eraseIdx i).map g
  | [], _ => rfl
  | _ :: _, 0 => rfl
  | x :: xs, i + 1 => congrArg (g x :: ·) (map_er g xs i)
theorem map_in {α β : Type} (g : α → β) (x : α) : ∀ (xs : List α) (i : Nat), (xs.map g).insertIdx i (g x) = (xs.insertIdx i x).map g
  | xs, 0 => by rw [List.insertIdx_zero, List.insertIdx_zero]; rfl
  | [], i + 1 => by rw [List.map_nil, List.insertIdx_succ_nil, List.insertIdx_succ_nil]; rfl
  | y :: xs, i + 1 => by rw [List.map_cons, List.insertIdx_succ_cons, List.insertIdx_succ_cons, List.map_cons, map_in g x xs i]
theorem pw_ins {α : Type} {R : α → α → Prop} {x : α} : ∀ {xs : List α} {i : Nat}, i ≤ xs.length → xs.Pairwise R → (∀ (j : Nat) (y : α), j < i → xs[j]? = some y → R y x) → (∀ (j : Nat) (y : α), i ≤ j → xs[j]? = some y → R x y) → (xs.insertIdx i x).Pairwise R
  | xs, 0, _, hp, _, h2 => by
    rw [List.insertIdx_zero, List.pairwise_cons]
    exact ⟨fun y hy => by
      obtain ⟨j, ej⟩ := List.getElem?_of_mem hy
      exact h2 j y (Nat.zero_le _) ej, hp⟩
  | [], i + 1, h, _, _, _ => by
    rw [List.length_nil] at h
    omega
  | y :: xs, i + 1, h, hp, h1, h2 => by
    rw [List.length_cons] at h
    rw [List.pairwise_cons] at hp
    rw [List.insertIdx_succ_cons, List.pairwise_cons]
    refine ⟨fun a ha => ?_, pw_ins (by omega) hp.2 (fun j y' hj e => h1 (j + 1) y' (by omega) (by rw [List.getElem?_cons_succ]; exact e)) (fun j y' hj e => h2 (j + 1) y' (by omega) (by rw [List.getElem?_cons_succ]; exact e))⟩
    rcases (List.mem_insertIdx (by omega)).mp ha with ha | ha
    · rw [ha]
      exact h1 0 y (by omega) (by rw [List.getElem?_cons_zero])
    · exact hp.1 a ha
section KOF
variable {G : kG} {h h' : kAH} {pl : Nat} {γ : kGh} {A : kAb} {k n d : Int} {N : Nat}
theorem ra_inj (z : kRA G h pl γ A) {n d n' d' : Int} (l1 : aLv A n) (a0 : 0 ≤ d) (a1 : d < (aMn A n : Int)) (a2 : d < 6) (l2 : aLv A n') (b0 : 0 ≤ d') (b1 : d' < (aMn A n' : Int)) (b2 : d' < 6) (e : gDt γ n d = gDt γ n' d') : n = n' ∧ d = d' := by
  have t := (z.2.2.2.2.2.2.2.1 n d l1 a0 a1 a2).1.2
  have t' := (z.2.2.2.2.2.2.2.1 n' d' l2 b0 b1 b2).1.2
  rw [e, t'] at t
  have u : (6 * n' + d').toNat = (6 * n + d).toNat := congrArg Prod.snd t
  have g1 := (z.2.2.2.2.2.2.1 n l1).1
  have g2 := (z.2.2.2.2.2.2.1 n' l2).1
  omega
theorem dx_same : (fun i => if i = k then aDx A k else aDx A i) = aDx A := funext fun i => by
  by_cases c : i = k
  · subst c; exact if_pos rfl
  · exact if_neg c
theorem ra_ec (z : kRA G h pl γ A) {xs : List (Int × Int)} (ho : kDo A xs N) : ∀ y ∈ xs.map (fun q => gDt γ q.1 q.2), ∃ vs : List Value, h y = some (.inr (4, vs)) := by
  intro y hy
  obtain ⟨q, hq, rfl⟩ := List.mem_map.mp hy
  obtain ⟨y1, y2, y3, y4, -⟩ := ho.2.2.2 q hq
  exact ⟨_, (z.2.2.2.2.2.2.2.1 q.1 q.2 y1 y2 y3 y4).1.1⟩
theorem ra_hT (z : kRA G h pl γ A) {xs : List (Int × Int)} (ho : kDo A xs N) : ∀ (i y : Nat), (xs.map (fun q => gDt γ q.1 q.2))[i]? = some y → ∃ (m s r : Nat) (c k n : Int), h y = some (.inr (4, [.ref m, .ref s, .ref r, .int (iI c)])) ∧ h s = some (.inr (8, [.int (iI k), .int (iI (kTm A xs i)), .int (iI n)])) ∧ 0 ≤ kTm A xs i ∧ kTm A xs i ≤ 100 := by
  intro i y e
  rw [List.getElem?_map, Option.map_eq_some_iff] at e
  obtain ⟨q, w1, w2⟩ := e
  obtain ⟨y1, y2, y3, y4, y5⟩ := ho.2.2.2 q (List.mem_of_getElem? w1)
  obtain ⟨⟨u1, -⟩, u2, -⟩ := z.2.2.2.2.2.2.2.1 q.1 q.2 y1 y2 y3 y4
  rw [kTm_at w1]
  exact ⟨_, _, _, _, _, _, by rw [← w2]; exact u1, u2, y5⟩
theorem ra_off (k0 : 0 ≤ k) (k1 : k < 28) (z : kRA G h pl γ A) (hn : aLv A n) (d0 : 0 ≤ d) (d1 : d < (aMn A n : Int)) (d2 : d < 6) (ho : kDo A (aDx A k) N) {ar c : Nat} (hS : kLs G h (gDl γ k) ar c ((aDx A k).map fun q => gDt γ q.1 q.2)) (har : gOw γ ar = (3, k.toNat) ∨ h ar = none) (hed : h' G.2.2.2 = none)
    (hv : (gDt γ n d ∉ ((aDx A k).map fun q => gDt γ q.1 q.2) ∧ h' = h) ∨ ∃ i : Nat, ((aDx A k).map fun q => gDt γ q.1 q.2)[i]? = some (gDt γ n d) ∧ kLx G h (gDl γ k) ar (((aDx A k).map fun q => gDt γ q.1 q.2).eraseIdx i) h') :
    ∃ (ow' : Nat → Nat × Nat) (xs' : List (Int × Int)), kRA G h' pl (ow', γ.2) (xDx A (fun i => if i = k then xs' else aDx A i)) ∧ xs'.Sublist (aDx A k) ∧ (∀ q : Int × Int, q ∈ xs' ↔ q ∈ aDx A k ∧ q ≠ (n, d)) ∧ kUt γ ow' h h' := by
  rcases hv with ⟨v1, rfl⟩ | ⟨i, v1, v2⟩
  · refine ⟨γ.1, aDx A k, ?_, List.Sublist.refl _, fun q => ⟨fun y => ⟨y, fun e => ?_⟩, fun y => y.1⟩, fun b e g1 g2 => ⟨g1, g2⟩⟩
    · rw [dx_same]; exact z
    · subst e; exact v1 (List.mem_map.mpr ⟨(n, d), y, rfl⟩)
  · rw [List.getElem?_map, Option.map_eq_some_iff] at v1
    obtain ⟨q0, w1, w2⟩ := v1
    have q0in := List.mem_of_getElem? w1
    obtain ⟨y1, y2, y3, y4, -⟩ := ho.2.2.2 q0 q0in
    obtain ⟨e1, e2⟩ := ra_inj z y1 y2 y3 y4 hn d0 d1 d2 w2
    have e3 : q0 = (n, d) := Prod.ext e1 e2
    rw [e3] at w1
    rw [map_er] at v2
    obtain ⟨ow', r1, r2⟩ := ra_X k0 k1 z hS har hed v2
    refine ⟨ow', (aDx A k).eraseIdx i, r1, List.eraseIdx_sublist _ _, fun q => ?_, r2⟩
    rw [List.mem_eraseIdx_iff_getElem?]
    constructor
    · rintro ⟨j, hj, ej⟩
      exact ⟨List.mem_of_getElem? ej, fun e => by subst e; exact hj ((List.getElem?_inj (List.getElem?_eq_some_iff.mp ej).1 ho.1).mp (ej.trans w1.symm))⟩
    · rintro ⟨y, hne⟩
      obtain ⟨j, ej⟩ := List.getElem?_of_mem y
      exact ⟨j, fun e => by subst e; rw [w1] at ej; exact hne (Option.some.inj ej).symm, ej⟩
theorem ra_on (k0 : 0 ≤ k) (k1 : k < 28) (z : kRA G h pl γ A) (hn : aLv A n) (d0 : 0 ≤ d) (d1 : d < (aMn A n : Int)) (d2 : d < 6) (ho : kDo A (aDx A k) N) (hnew : (n, d) ∉ aDx A k) (ht : 0 ≤ aDt A n d 1 ∧ aDt A n d 1 ≤ 100) {ar c : Nat} (hS : kLs G h (gDl γ k) ar c ((aDx A k).map fun q => gDt γ q.1 q.2)) (har : gOw γ ar = (3, k.toNat) ∨ h ar = none) (hed : h' G.2.2.2 = none)
    (hv : ∃ i : Nat, i ≤ ((aDx A k).map fun q => gDt γ q.1 q.2).length ∧ (∀ j : Nat, j < i → kTm A (aDx A k) j < aDt A n d 1) ∧ (i < ((aDx A k).map fun q => gDt γ q.1 q.2).length → aDt A n d 1 ≤ kTm A (aDx A k) i) ∧ kLx G h (gDl γ k) ar (((aDx A k).map fun q => gDt γ q.1 q.2).insertIdx i (gDt γ n d)) h') :
    ∃ (ow' : Nat → Nat × Nat) (xs' : List (Int × Int)), kRA G h' pl (ow', γ.2) (xDx A (fun i => if i = k then xs' else aDx A i)) ∧ kDo A xs' (N + 1) ∧ (∀ q : Int × Int, q ∈ xs' ↔ q = (n, d) ∨ q ∈ aDx A k) ∧ kUt γ ow' h h' := by
  obtain ⟨i, v1, v2, v3, v4⟩ := hv
  rw [List.length_map] at v1 v3
  have e9 : ((aDx A k).map fun q => gDt γ q.1 q.2).insertIdx i (gDt γ n d) = ((aDx A k).insertIdx i (n, d)).map fun q => gDt γ q.1 q.2 := map_in (fun q : Int × Int => gDt γ q.1 q.2) (n, d) (aDx A k) i
  rw [e9] at v4
  obtain ⟨ow', r1, r2⟩ := ra_X k0 k1 z hS har hed v4
  have hm : ∀ q : Int × Int, q ∈ (aDx A k).insertIdx i (n, d) ↔ q = (n, d) ∨ q ∈ aDx A k := fun q => List.mem_insertIdx v1
  refine ⟨ow', (aDx A k).insertIdx i (n, d), r1, ⟨?_, ?_, ?_, fun q hq => ?_⟩, hm, r2⟩
  · exact pw_ins v1 ho.1 (fun j y _ e => fun c => hnew (c ▸ List.mem_of_getElem? e)) (fun j y _ e => fun c => hnew (c ▸ List.mem_of_getElem? e))
  · rw [List.length_insertIdx_of_le_length v1]
    have := ho.2.1
    omega
  · refine pw_ins v1 ho.2.2.1 (fun j y hj e => ?_) (fun j y hj e => ?_)
    · have u := v2 j hj
      rw [kTm_at e] at u
      exact Int.le_of_lt u
    · have hl := (List.getElem?_eq_some_iff.mp e).1
      have u := v3 (by omega)
      have e2 : (aDx A k)[i]? = some ((aDx A k)[i]'(by omega)) := List.getElem?_eq_getElem (by omega)
      rw [kTm_at e2] at u
      by_cases c : j = i
      · subst c
        rw [e] at e2
        have e3 := Option.some.inj e2
        rw [← e3] at u
        exact u
      · have g := List.pairwise_iff_getElem.mp ho.2.2.1 i j (by omega) hl (by omega)
        have e3 : (aDx A k)[j] = y := Option.some.inj ((List.getElem?_eq_getElem hl).symm.trans e)
        rw [e3] at g
        exact Int.le_trans u g
  · rcases (hm q).mp hq with rfl | hq
    · exact ⟨hn, d0, d1, d2, ht⟩
    · exact ho.2.2.2 q hq
end KOF
theorem w_dyA {l : Launch} {G : kG} {h : kAH} (hl : l.stackTraces = false) {pl : Nat} {γ : kGh} {A : kAb} (hR : kRA G h pl γ A) {x : Int} (hx : 0 ≤ x ∧ x < 28) : kC l G m_X5_dayWith 1 0 0 [.ref pl, .int (iI x)] h (kPq (.ref (gDy γ x)) h) kNo := by
  obtain ⟨F, hF, hF2⟩ := hR.2.2.2.1.1
  refine kC_of hl rfl rfl (Nat.le_of_ble_eq_true rfl) (L := [some (.ref pl), some (.int (iI x))]) rfl ?_
  refine k_iload_n (pc1 := 1) dX5_dayWith_0 rfl rfl ?_
  refine k_if_lt (a := x) dX5_dayWith_1 rfl (tgt := 13) rfl (by omega) (fun c1 : x < 0 => ?_) (fun c1 : ¬ x < 0 => ?_)
  · skip
    exfalso; omega
  · skip
    refine k_iload_n (pc1 := 5) dX5_dayWith_4 rfl rfl ?_
    refine k_aload_n (pc1 := 6) dX5_dayWith_5 rfl rfl ?_
    refine k_get (pc1 := 9) dX5_dayWith_6 rfl fd_RX5_20 hR.1.1 (v := .ref (gDa γ)) rfl ?_
    refine k_alenR (pc1 := 10) dX5_dayWith_9 rfl hF (j := 4) rfl ?_
    refine k_icmp_lt (a := x) (b := ((28 : Nat) : Int)) dX5_dayWith_10 rfl (tgt := 24) rfl (by omega) (by omega) (fun c10 : x < ((28 : Nat) : Int) => ?_) (fun c10 : ((28 : Nat) : Int) ≤ x => ?_)
    · skip
      refine k_aload_n (pc1 := 25) dX5_dayWith_24 rfl rfl ?_
      refine k_get (pc1 := 28) dX5_dayWith_25 rfl fd_RX5_20 hR.1.1 (v := .ref (gDa γ)) rfl ?_
      refine k_iload_n (pc1 := 29) dX5_dayWith_28 rfl rfl ?_
      refine k_aald (i := x) (pc1 := 30) dX5_dayWith_29 rfl hF (j := 4) rfl (by omega) (by omega) (by decide) (k_val (v' := .ref (gDy γ x)) (congrArg va_rf (hF2 x hx.1 hx.2)) ?_)
      exact k_aret dX5_dayWith_30 rfl (Or.inl ⟨_, rfl⟩) (Or.inr ⟨_, rfl⟩) ⟨rfl, rfl⟩
    · skip
      exfalso; omega
theorem w_offD {l : Launch} {G : kG} {h : kAH} (hl : l.stackTraces = false) {pl : Nat} {γ : kGh} {A : kAb} (hR : kRA G h pl γ A) {n d : Int} (hn : aLv A n) (d0 : 0 ≤ d) (d1 : d < (aMn A n : Int)) (d2 : d < 6) (hk0 : 0 ≤ aDt A n d 0) (hk1 : aDt A n d 0 < 28) {N : Nat} (ho : kDo A (aDx A (aDt A n d 0)) N) (hN : N ≤ 100) : kC l G m_X5_takeOffItsDay 5 0 0 [.ref pl, .ref (gDt γ n d)] h (fun v h' => v = none ∧ ∃ (ow' : Nat → Nat × Nat) (xs' : List (Int × Int)), kRA G h' pl (ow', γ.2) (xDx A (fun i => if i = aDt A n d 0 then xs' else aDx A i)) ∧ xs'.Sublist (aDx A (aDt A n d 0)) ∧ (∀ q : Int × Int, q ∈ xs' ↔ q ∈ aDx A (aDt A n d 0) ∧ q ≠ (n, d)) ∧ kUt γ ow' h h') kNo := by
  refine kC_of hl rfl rfl (Nat.le_of_ble_eq_true rfl) (L := [some (.ref pl), some (.ref (gDt γ n d))]) rfl ?_
  obtain ⟨⟨hD9, -⟩, hS9, -⟩ := hR.2.2.2.2.2.2.2.1 n d hn d0 d1 d2
  have hlN := ho.2.1
  refine k_aload_n (pc1 := 1) dX5_takeOffItsDay_0 rfl rfl ?_
  refine k_aload_n (pc1 := 2) dX5_takeOffItsDay_1 rfl rfl ?_
  refine k_get (pc1 := 5) dX5_takeOffItsDay_2 rfl fd_RX5_108 hD9 (v := .ref (gSt γ n d)) rfl ?_
  refine k_get (pc1 := 8) dX5_takeOffItsDay_5 rfl fd_RX5_114 hS9 (v := .int (iI (aDt A n d 0))) rfl ?_
  refine k_callVP dX5_takeOffItsDay_8 rfl lk_RX5_242 o_X5_dayWith (w_dyA hl hR ⟨hk0, hk1⟩) (as := [.int (iI (aDt A n d 0))]) hR.1.1 rfl rfl rfl rfl (by decide) (by decide) (k8 rfl) ?_
  have hDy := (hR.2.2.2.2.1 (aDt A n d 0) hk0 hk1).1.1
  obtain ⟨hOw, arD, cD, hDl, har⟩ := (hR.2.2.2.2.1 (aDt A n d 0) hk0 hk1).2
  refine k_ged (fun hed0 => ?_)
  have har2 : gOw γ arD = (3, (aDt A n d 0).toNat) ∨ h arD = none := by
    rcases har with ⟨y, -, -⟩ | y
    · exact Or.inr (by rw [y]; exact hed0)
    · exact Or.inl y
  refine k_aload_n (pc1 := 12) dX5_takeOffItsDay_11 rfl rfl ?_
  refine k_callV dX5_takeOffItsDay_12 rfl lk_RX5_301 o_X1_drop (as := [.ref (gDt γ n d)]) rfl rfl hDy rfl rfl (w_drop hl hDy hDl (by rw [List.length_map]; omega) (ra_ec hR ho)) (by decide) (by decide) (Nat.zero_le _) (Nat.zero_le _) (k8 rfl) (fun v h1 hv => ?_) (fun E h9 z => z.elim)
  obtain ⟨hv1, hv2⟩ := hv
  subst hv1
  refine k_st (st' := []) rfl ?_
  refine k_ged (fun hed => ?_)
  exact k_vret dX5_takeOffItsDay_15 rfl ⟨rfl, ra_off hk0 hk1 hR hn d0 d1 d2 ho hDl har2 hed hv2⟩
theorem w_onD {l : Launch} {G : kG} {h : kAH} (hl : l.stackTraces = false) {pl : Nat} {γ : kGh} {A : kAb} (hR : kRA G h pl γ A) {n d : Int} (hn : aLv A n) (d0 : 0 ≤ d) (d1 : d < (aMn A n : Int)) (d2 : d < 6) (hk0 : 0 ≤ aDt A n d 0) (hk1 : aDt A n d 0 < 28) {N : Nat} (ho : kDo A (aDx A (aDt A n d 0)) N) (hN : N ≤ 100) (hnew : (n, d) ∉ aDx A (aDt A n d 0)) (ht : 0 ≤ aDt A n d 1 ∧ aDt A n d 1 ≤ 100) : kC l G m_X5_putOnItsDay 8 1 200 [.ref pl, .ref (gDt γ n d)] h (fun v h' => v = none ∧ ∃ (ow' : Nat → Nat × Nat) (xs' : List (Int × Int)), kRA G h' pl (ow', γ.2) (xDx A (fun i => if i = aDt A n d 0 then xs' else aDx A i)) ∧ kDo A xs' (N + 1) ∧ (∀ q : Int × Int, q ∈ xs' ↔ q = (n, d) ∨ q ∈ aDx A (aDt A n d 0)) ∧ kUt γ ow' h h') kNo := by
  refine kC_of hl rfl rfl (Nat.le_of_ble_eq_true rfl) (L := [some (.ref pl), some (.ref (gDt γ n d))]) rfl ?_
  obtain ⟨⟨hD9, -⟩, hS9, -⟩ := hR.2.2.2.2.2.2.2.1 n d hn d0 d1 d2
  have hlN := ho.2.1
  refine k_aload_n (pc1 := 1) dX5_putOnItsDay_0 rfl rfl ?_
  refine k_aload_n (pc1 := 2) dX5_putOnItsDay_1 rfl rfl ?_
  refine k_get (pc1 := 5) dX5_putOnItsDay_2 rfl fd_RX5_108 hD9 (v := .ref (gSt γ n d)) rfl ?_
  refine k_get (pc1 := 8) dX5_putOnItsDay_5 rfl fd_RX5_114 hS9 (v := .int (iI (aDt A n d 0))) rfl ?_
  refine k_callVP dX5_putOnItsDay_8 rfl lk_RX5_242 o_X5_dayWith (w_dyA hl hR ⟨hk0, hk1⟩) (as := [.int (iI (aDt A n d 0))]) hR.1.1 rfl rfl rfl rfl (by decide) (by decide) (k8 rfl) ?_
  have hDy := (hR.2.2.2.2.1 (aDt A n d 0) hk0 hk1).1.1
  obtain ⟨hOw, arD, cD, hDl, har⟩ := (hR.2.2.2.2.1 (aDt A n d 0) hk0 hk1).2
  refine k_ged (fun hed0 => ?_)
  have har2 : gOw γ arD = (3, (aDt A n d 0).toNat) ∨ h arD = none := by
    rcases har with ⟨y, -, -⟩ | y
    · exact Or.inr (by rw [y]; exact hed0)
    · exact Or.inl y
  refine k_aload_n (pc1 := 12) dX5_putOnItsDay_11 rfl rfl ?_
  refine k_callV dX5_putOnItsDay_12 rfl lk_RX5_298 o_X1_take (as := [.ref (gDt γ n d)]) rfl rfl hDy rfl rfl (w_take hl hDy hDl (by rw [List.length_map]; omega) (ra_hT hR ho) hD9 hS9 ht) (by decide) (by decide) (by decide) (by decide) (k8 rfl) (fun v h1 hv => ?_) (fun E h9 z => z.elim)
  obtain ⟨hv1, hv2⟩ := hv
  subst hv1
  refine k_st (st' := []) rfl ?_
  refine k_ged (fun hed => ?_)
  exact k_vret dX5_putOnItsDay_15 rfl ⟨rfl, ra_on hk0 hk1 hR hn d0 d1 d2 ho hnew ht hDl har2 hed hv2⟩
