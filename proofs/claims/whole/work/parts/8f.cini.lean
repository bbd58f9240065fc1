/-! ===== the planner made: walked ===== -/
-- days made so far
def kDy (G : kG) (hE h5 : kAH) (i : Nat) (F : Nat → Option Nat) (dy dl : Nat → Nat) : Prop :=
  (∀ j : Nat, j < i → F j = some (dy j) ∧ hE (dy j) = none ∧ hE (dl j) = none ∧ h5 (dy j) = some (.inr (5, [.ref (dl j)])) ∧ kLs G h5 (dl j) G.2.2.2 0 []) ∧
  (∀ j k : Nat, j < i → k < i → dy j = dy k → j = k) ∧ (∀ j k : Nat, j < i → k < i → dl j = dl k → j = k)
theorem dyI_0 {G : kG} {hE h5 : kAH} {F : Nat → Option Nat} {dy dl : Nat → Nat} : kDy G hE h5 0 F dy dl := ⟨fun j hj => absurd hj (by omega), fun j k hj => absurd hj (by omega), fun j k hj => absurd hj (by omega)⟩
theorem dyI_step {G : kG} {hE h5 h6 h7 : kAH} {i qd q dq : Nat} {F : Nat → Option Nat} {dy dl : Nat → Nat} (hQ : ∃ e : va_E, h5 qd = some e ∧ ∀ (ci : Nat) (vs : List Value), e ≠ .inr (ci, vs)) (hK : ∀ (b : Nat) (e : va_E), hE b = some e → b ≠ qd → h5 b = some e) (hE1 : hE qd ≠ none) (hD : kDy G hE h5 i F dy dl)
    (hq : h5 q = none) (hdq : h5 dq = none) (hqd : q ≠ dq) (hv2 : h6 q = some (.inr (5, [.ref dq]))) (hv3 : kLs G h6 dq G.2.2.2 0 []) (hv4 : ∀ b, b ≠ q → b ≠ dq → h6 b = h5 b) (hf7 : ∀ b, b ≠ qd → h7 b = h6 b) :
    (∀ (b : Nat) (e : va_E), hE b = some e → b ≠ qd → h7 b = some e) ∧ kDy G hE h7 (i + 1) (va_up F i (some q)) (fun j => if j = i then q else dy j) (fun j => if j = i then dq else dl j) := by
  obtain ⟨eQ, hQ1, hQ2⟩ := hQ
  have nE : ∀ x : Nat, h5 x = none → hE x = none := fun x hx => by
    cases c : hE x with
    | none => rfl
    | some e =>
      by_cases cx : x = qd
      · rw [cx, hQ1] at hx; cases hx
      · rw [hK x e c cx] at hx; cases hx
  have qqd : q ≠ qd := fun y => by rw [y, hQ1] at hq; cases hq
  have dqd : dq ≠ qd := fun y => by rw [y, hQ1] at hdq; cases hdq
  obtain ⟨D1, D2, D3⟩ := hD
  have lkeep : ∀ x : Nat, h5 x ≠ none → x ≠ qd → h7 x = h5 x := fun x hx cx => (hf7 x cx).trans (hv4 x (fun y => hx (by rw [y]; exact hq)) (fun y => hx (by rw [y]; exact hdq)))
  refine ⟨fun b e hb hne => ?_, fun j hj => ?_, fun j k hj hk e => ?_, fun j k hj hk e => ?_⟩
  · have z := hK b e hb hne
    rw [lkeep b (by rw [z]; exact fun y => by cases y) hne]
    exact z
  · show va_up F i (some q) j = some (if j = i then q else dy j) ∧ hE (if j = i then q else dy j) = none ∧ hE (if j = i then dq else dl j) = none ∧ h7 (if j = i then q else dy j) = some (.inr (5, [.ref (if j = i then dq else dl j)])) ∧ kLs G h7 (if j = i then dq else dl j) G.2.2.2 0 []
    unfold va_up
    by_cases cj : j = i
    · rw [if_pos cj, if_pos cj, if_pos cj]
      refine ⟨rfl, nE q hq, nE dq hdq, (hf7 q qqd).trans hv2, ?_⟩
      obtain ⟨⟨mc, y1⟩, y2⟩ := hv3
      exact ⟨⟨mc, (hf7 dq dqd).trans y1⟩, Or.inl ⟨rfl, rfl, rfl⟩⟩
    · rw [if_neg cj, if_neg cj, if_neg cj]
      obtain ⟨u1, u2, u3, u4, u5⟩ := D1 j (by omega)
      refine ⟨u1, u2, u3, ?_, ?_⟩
      · rw [lkeep _ (by rw [u4]; exact fun y => by cases y) (fun y => by
          rw [y, hQ1] at u4
          exact hQ2 _ _ (Option.some.inj u4))]
        exact u4
      · obtain ⟨⟨mc, y1⟩, y2⟩ := u5
        refine ⟨⟨mc, ?_⟩, Or.inl ⟨rfl, rfl, rfl⟩⟩
        rw [lkeep _ (by rw [y1]; exact fun y => by cases y) (fun y => by
          rw [y, hQ1] at y1
          exact hQ2 _ _ (Option.some.inj y1))]
        exact y1
  · have e2 : (if j = i then q else dy j) = (if k = i then q else dy k) := e
    have nd : ∀ x : Nat, x < i → dy x ≠ q := fun x hx y => by
      have := (D1 x hx).2.2.2.1
      rw [y, hq] at this; cases this
    by_cases cj : j = i
    · by_cases ck : k = i
      · omega
      · rw [if_pos cj, if_neg ck] at e2
        exact absurd e2.symm (nd k (by omega))
    · by_cases ck : k = i
      · rw [if_neg cj, if_pos ck] at e2
        exact absurd e2 (nd j (by omega))
      · rw [if_neg cj, if_neg ck] at e2
        exact D2 j k (by omega) (by omega) e2
  · have e2 : (if j = i then dq else dl j) = (if k = i then dq else dl k) := e
    have nd : ∀ x : Nat, x < i → dl x ≠ dq := fun x hx y => by
      obtain ⟨⟨mc, y1⟩, -⟩ := (D1 x hx).2.2.2.2
      rw [y, hdq] at y1; cases y1
    by_cases cj : j = i
    · by_cases ck : k = i
      · omega
      · rw [if_pos cj, if_neg ck] at e2
        exact absurd e2.symm (nd k (by omega))
    · by_cases ck : k = i
      · rw [if_neg cj, if_pos ck] at e2
        exact absurd e2 (nd j (by omega))
      · rw [if_neg cj, if_neg ck] at e2
        exact D3 j k (by omega) (by omega) e2
noncomputable def kO0 (a ra da ml : Nat) (rm dy dl : Nat → Nat) (b : Nat) : Nat × Nat :=
  kI (b = a) (10, 0) (kI (b = ra) (11, 0) (kI (b = da) (14, 0) (kI (b = ml) (12, 0) (kI (∃ r : Nat, r < 4 ∧ b = rm r) (9, (kls (fun r => b = rm r) 4).toNat) (kI (∃ k : Nat, k < 28 ∧ b = dy k) (1, (kls (fun k => b = dy k) 28).toNat) (kI (∃ k : Nat, k < 28 ∧ b = dl k) (2, (kls (fun k => b = dl k) 28).toNat) (0, 0)))))))
theorem ra_ini {G : kG} {h h' : kAH} {a ra da ml : Nat} {rm dy dl : Nat → Nat} {Fr F : Nat → Option Nat} (hP : h' a = some (.inr (9, [.ref ra, .ref da, .ref ml, .int (iI 1), .int (iI 0), .int (iI 0), .int (iI 0)])))
    (hRa : h' ra = some (kro G 5 4 Fr)) (hFr : ∀ r : Nat, r < 4 → Fr r = some (rm r)) (hRm : ∀ r : Nat, r < 4 → h' (rm r) = some (.inr (7, [.int (iI (r : Int)), .int (iI (f00 (5 + r))), .int (iI (f00 (9 + r)))]))) (hri : ∀ j k : Nat, j < 4 → k < 4 → rm j = rm k → j = k)
    (hDa : h' da = some (kro G 4 28 F)) (hrd : ra ≠ da) (hD : ∀ j : Nat, j < 28 → F j = some (dy j) ∧ h' (dy j) = some (.inr (5, [.ref (dl j)])) ∧ kLs G h' (dl j) G.2.2.2 0 []) (hdi : ∀ j k : Nat, j < 28 → k < 28 → dy j = dy k → j = k) (hli : ∀ j k : Nat, j < 28 → k < 28 → dl j = dl k → j = k)
    (hMl : kLs G h' ml G.2.2.2 0 []) (hml : ∀ j : Nat, j < 28 → ml ≠ dl j)
    (hnew : h ra = none ∧ h da = none ∧ h ml = none ∧ (∀ r : Nat, r < 4 → h (rm r) = none) ∧ ∀ j : Nat, j < 28 → h (dy j) = none ∧ h (dl j) = none) (hfr : ∀ (b : Nat) (e : va_E), h b = some e → b ≠ a → h' b = some e) :
    ∃ (γ : kGh) (A : kAb), kRp G h' a γ A f00 ∧ ∀ (b : Nat) (e : va_E), h b = some e → b ≠ a → h' b = some e ∧ gOw γ b = (0, 0) := by
  obtain ⟨⟨mcM, hM1⟩, -⟩ := id hMl
  have nf : ∀ {b : Nat} {e e' : va_E}, h' b = some e → e ≠ e' → ∀ c : Nat, h' c = some e' → b ≠ c := fun {b e e'} h1 h2 c h3 y => by
    rw [y, h3] at h1
    exact h2 (Option.some.inj h1).symm
  have T : ∀ b : Nat, b ≠ a → b ≠ ra → b ≠ da → b ≠ ml → (¬ ∃ r : Nat, r < 4 ∧ b = rm r) → (¬ ∃ k : Nat, k < 28 ∧ b = dy k) → (¬ ∃ k : Nat, k < 28 ∧ b = dl k) → kO0 a ra da ml rm dy dl b = (0, 0) := fun b h1 h2 h3 h4 h5 h6 h7 => by
    unfold kO0
    rw [kI_f h1, kI_f h2, kI_f h3, kI_f h4, kI_f h5, kI_f h6, kI_f h7]
  have Ta : kO0 a ra da ml rm dy dl a = (10, 0) := kI_t rfl
  have Tra : kO0 a ra da ml rm dy dl ra = (11, 0) := by
    unfold kO0
    rw [kI_f (kne_ro hRa hP), kI_t rfl]
  have Tda : kO0 a ra da ml rm dy dl da = (14, 0) := by
    unfold kO0
    rw [kI_f (kne_ro hDa hP), kI_f (Ne.symm hrd), kI_t rfl]
  have Tml : kO0 a ra da ml rm dy dl ml = (12, 0) := by
    unfold kO0
    rw [kI_f (kne_ci hM1 hP (by decide)), kI_f (kne_or hM1 hRa), kI_f (kne_or hM1 hDa), kI_t rfl]
  have Trm : ∀ r : Nat, r < 4 → kO0 a ra da ml rm dy dl (rm r) = (9, r) := fun r hr => by
    have z := hRm r hr
    unfold kO0
    rw [kI_f (kne_ci z hP (by decide)), kI_f (kne_or z hRa), kI_f (kne_or z hDa), kI_f (kne_ci z hM1 (by decide)), kI_t ⟨r, hr, rfl⟩, kls_at (P := fun r' => rm r = rm r') hr rfl (fun j hj y => by have := hri r j hr (by omega) y; omega)]
    rfl
  have Tdy : ∀ k : Nat, k < 28 → kO0 a ra da ml rm dy dl (dy k) = (1, k) := fun k hk => by
    have z := (hD k hk).2.1
    unfold kO0
    rw [kI_f (kne_ci z hP (by decide)), kI_f (kne_or z hRa), kI_f (kne_or z hDa), kI_f (kne_ci z hM1 (by decide)), kI_f (fun ⟨r, hr, y⟩ => kne_ci z (hRm r hr) (by decide) y), kI_t ⟨k, hk, rfl⟩, kls_at (P := fun k' => dy k = dy k') hk rfl (fun j hj y => by have := hdi k j hk (by omega) y; omega)]
    rfl
  have Tdl : ∀ k : Nat, k < 28 → kO0 a ra da ml rm dy dl (dl k) = (2, k) := fun k hk => by
    obtain ⟨⟨mc, z⟩, -⟩ := (hD k hk).2.2
    unfold kO0
    rw [kI_f (kne_ci z hP (by decide)), kI_f (kne_or z hRa), kI_f (kne_or z hDa), kI_f (Ne.symm (hml k hk)), kI_f (fun ⟨r, hr, y⟩ => kne_ci z (hRm r hr) (by decide) y), kI_f (fun ⟨r, hr, y⟩ => kne_ci z (hD r hr).2.1 (by decide) y), kI_t ⟨k, hk, rfl⟩, kls_at (P := fun k' => dl k = dl k') hk rfl (fun j hj y => by have := hli k j hk (by omega) y; omega)]
    rfl
  refine ⟨(kO0 a ra da ml rm dy dl, (fun r => rm r.toNat), (fun k => dy k.toNat), (fun k => dl k.toNat), (fun _ => 0), (fun _ => 0), (fun _ _ => 0), (fun _ _ => 0), ra, da, ml),
    ((fun i => if i = 0 then 1 else 0), (fun r => f00 (5 + r).toNat), (fun r => f00 (9 + r).toNat), [], (fun _ => 0), (fun _ => 0), (fun _ => 0), (fun _ => 0), (fun _ => 0), (fun _ _ _ => 0), (fun _ => []), (fun _ => False)), ⟨⟨⟨hP, Ta⟩, ⟨⟨Fr, hRa, fun r r0 r1 => hFr r.toNat (by omega)⟩, Tra⟩, fun r r0 r1 => ?_, ⟨⟨F, hDa, fun k k0 k1 => (hD k.toNat (by omega)).1⟩, Tda⟩, fun k k0 k1 => ?_, ⟨Tml, G.2.2.2, 0, hMl, Or.inl ⟨rfl, rfl, rfl⟩⟩, fun n hn => hn.elim, fun n d hn => hn.elim, fun b hb => ?_⟩, ?_, wf_0⟩, fun b e hb hne => ⟨hfr b e hb hne, ?_⟩⟩
  · obtain ⟨i, rfl⟩ := Int.eq_ofNat_of_zero_le r0
    have hi : i < 4 := by omega
    refine ⟨?_, Trm i hi⟩
    have z := hRm i hi
    show h' (rm i) = some (.inr (7, [.int (iI (i : Int)), .int (iI (f00 ((5 : Int) + (i : Int)).toNat)), .int (iI (f00 ((9 : Int) + (i : Int)).toNat))]))
    rw [show ((5 : Int) + (i : Int)).toNat = 5 + i by omega, show ((9 : Int) + (i : Int)).toNat = 9 + i by omega]
    exact z
  · obtain ⟨i, rfl⟩ := Int.eq_ofNat_of_zero_le k0
    have hi : i < 28 := by omega
    obtain ⟨u1, u2, u3⟩ := hD i hi
    exact ⟨⟨u2, Tdy i hi⟩, Tdl i hi, G.2.2.2, 0, u3, Or.inl ⟨rfl, rfl, rfl⟩⟩
  · refine T b (fun y => by rw [y, hP] at hb; cases hb) (fun y => by rw [y, hRa] at hb; cases hb) (fun y => by rw [y, hDa] at hb; cases hb) (fun y => by rw [y, hM1] at hb; cases hb) ?_ ?_ ?_
    · rintro ⟨r, hr, y⟩
      rw [y, hRm r hr] at hb; cases hb
    · rintro ⟨k, hk, y⟩
      rw [y, (hD k hk).2.1] at hb; cases hb
    · rintro ⟨k, hk, y⟩
      obtain ⟨⟨mc, z⟩, -⟩ := (hD k hk).2.2
      rw [y, z] at hb; cases hb
  · obtain ⟨e0, e1, e2, e3, e4⟩ := f00_0
    refine ⟨⟨e0.symm, e2.symm, e3.symm, e4.symm⟩, fun r r0 r1 => ⟨rfl, rfl⟩, ?_, ?_, ?_, ?_⟩
    · rw [e1]; rfl
    · intro m m0 m1; rw [e1] at m1; omega
    · intro m d hi
      have := hi.2.1
      have h0 := hi.1
      rw [e1] at this; omega
    · intro k k0 k1
      refine ⟨List.nodup_nil, List.Pairwise.nil, fun q => ⟨(fun y => nomatch y), fun ⟨m, hi, _⟩ => ?_⟩⟩
      have := hi.2.1
      have h0 := hi.1
      rw [e1] at this; omega
  · obtain ⟨n1, n2, n3, n4, n5⟩ := hnew
    exact T b hne (fun y => by rw [y, n1] at hb; cases hb) (fun y => by rw [y, n2] at hb; cases hb) (fun y => by rw [y, n3] at hb; cases hb) (fun ⟨r, hr, y⟩ => by rw [y, n4 r hr] at hb; cases hb) (fun ⟨k, hk, y⟩ => by rw [y, (n5 k hk).1] at hb; cases hb) (fun ⟨k, hk, y⟩ => by rw [y, (n5 k hk).2] at hb; cases hb)
