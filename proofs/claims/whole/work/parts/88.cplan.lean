/-! ===== the class: dates planned, walked ===== -/
def kAdt (A : kAb) (n : Int) (c e : Nat) (K S : Nat → Int) (t ln : Int) : Int → Int → Nat → Int := fun i j w => if i = n ∧ (c : Int) ≤ j ∧ j < (c : Int) + (e : Int) then (match w with
  | 0 => K (j - c).toNat
  | 1 => t
  | 2 => 0
  | 3 => S (j - c).toNat
  | 4 => ln
  | w => aDt A i j w) else aDt A i j w
def kAgd (g : Int → Int → Nat) (n : Int) (c e : Nat) (qs : List Nat) : Int → Int → Nat := fun i j => if i = n ∧ (c : Int) ≤ j ∧ j < (c : Int) + (e : Int) then (qs[(j - c).toNat]?).getD 0 else g i j
theorem kAdt_ne {A : kAb} {n : Int} {c e : Nat} {K S : Nat → Int} {t ln i j : Int} {w : Nat} (hc : ¬ (i = n ∧ (c : Int) ≤ j ∧ j < (c : Int) + (e : Int))) : kAdt A n c e K S t ln i j w = aDt A i j w := if_neg hc
theorem kAdt_at {A : kAb} {n : Int} {c e : Nat} {K S : Nat → Int} {t ln : Int} {x : Nat} (hx : x < e) : kAdt A n c e K S t ln n ((c : Int) + (x : Int)) 0 = K x ∧ kAdt A n c e K S t ln n ((c : Int) + (x : Int)) 1 = t ∧ kAdt A n c e K S t ln n ((c : Int) + (x : Int)) 2 = 0 ∧ kAdt A n c e K S t ln n ((c : Int) + (x : Int)) 3 = S x ∧ kAdt A n c e K S t ln n ((c : Int) + (x : Int)) 4 = ln := by
  have hc : n = n ∧ (c : Int) ≤ (c : Int) + (x : Int) ∧ (c : Int) + (x : Int) < (c : Int) + (e : Int) := ⟨rfl, by omega, by omega⟩
  have e1 : ((c : Int) + (x : Int) - c).toNat = x := by omega
  refine ⟨(if_pos hc).trans ?_, if_pos hc, if_pos hc, (if_pos hc).trans ?_, if_pos hc⟩
  · show K ((c : Int) + (x : Int) - c).toNat = K x
    rw [e1]
  · show S ((c : Int) + (x : Int) - c).toNat = S x
    rw [e1]
theorem kAgd_ne {g : Int → Int → Nat} {n : Int} {c e : Nat} {qs : List Nat} {i j : Int} (hc : ¬ (i = n ∧ (c : Int) ≤ j ∧ j < (c : Int) + (e : Int))) : kAgd g n c e qs i j = g i j := if_neg hc
theorem kAgd_at {g : Int → Int → Nat} {n : Int} {c e : Nat} {qs : List Nat} {x y : Nat} (hx : x < e) (hy : qs[x]? = some y) : kAgd g n c e qs n ((c : Int) + (x : Int)) = y := by
  have hc : n = n ∧ (c : Int) ≤ (c : Int) + (x : Int) ∧ (c : Int) + (x : Int) < (c : Int) + (e : Int) := ⟨rfl, by omega, by omega⟩
  refine (if_pos hc).trans ?_
  rw [show ((c : Int) + (x : Int) - c).toNat = x by omega, hy]
  rfl
section KPD
variable {G : kG} {h h' : kAH} {pl : Nat} {γ : kGh} {A : kAb} {f : Nat → Int} {n : Int}
-- a list is kept where its cell and its row are
theorem kLs_fr {h1 h2 : kAH} {a ar c : Nat} {xs : List Nat} (z : kLs G h1 a ar c xs) (ha : ∀ e : va_E, h1 a = some e → h2 a = some e) (har : ∀ e : va_E, h1 ar = some e → h2 ar = some e) : kLs G h2 a ar c xs := by
  obtain ⟨⟨mc, y1⟩, y2⟩ := z
  refine ⟨⟨mc, ha _ y1⟩, ?_⟩
  rcases y2 with y2 | ⟨g1, g2, F, g3, g4⟩
  · exact Or.inl y2
  · exact Or.inr ⟨g1, g2, F, har _ g3, g4⟩
-- the new dates, listed while they are tried
def kPl (h : kAH) (mt : Nat) (Rm : Nat → Nat) (ss : List Nat) (h2 : kAH) (qs : List Nat) : Prop := qs.Nodup ∧ ∀ (j x : Nat), qs[j]? = some x → h x = none ∧ ∃ s : Nat, ss[j]? = some s ∧ h2 x = some (.inr (4, [.ref mt, .ref s, .ref (Rm j), .int (iI 0)]))
theorem pl_step {h2 h4 h5 : kAH} {p arp cp q s mt : Nat} {Rm : Nat → Nat} {ss qs : List Nat} (hX2 : kXt h h2) (hp : h p = none) (hP : kLs G h2 p arp cp qs) (harp : arp = G.2.2.2 ∨ h arp = none) (hed : h G.2.2.2 = none) (hed4 : h4 G.2.2.2 = none) (hpl : kPl h mt Rm ss h2 qs)
    (hs : ss[qs.length]? = some s) (hq : h2 q = none) (hv2 : h4 q = some (.inr (4, [.ref mt, .ref s, .ref (Rm qs.length), .int (iI 0)]))) (hv3 : ∀ b, b ≠ q → h4 b = h2 b) (hx : kLx G h4 p arp (qs ++ [q]) h5) :
    kXt h h5 ∧ (∃ arp' cp' : Nat, kLs G h5 p arp' cp' (qs ++ [q]) ∧ (arp' = G.2.2.2 ∨ h arp' = none)) ∧ kPl h mt Rm ss h5 (qs ++ [q]) := by
  obtain ⟨ar', c', hS', hne, hfr⟩ := hx
  have hqn : h q = none := kXt_no hX2 hq
  obtain ⟨vp, hpc⟩ : ∃ vs : List Value, h2 p = some (.inr (3, vs)) := by
    obtain ⟨⟨mc, y⟩, -⟩ := hP
    exact ⟨_, y⟩
  have harn : h arp = none := by
    rcases harp with y | y
    · rw [y]; exact hed
    · exact y
  have K4 : ∀ (b : Nat) (e : va_E), h b = some e → h4 b = some e := fun b e z => (hv3 b (kne_new z hqn)).trans (hX2 b e z)
  have K : kXt h h5 := fun b e z => (hfr b (fun y => by rw [y, hp] at z; cases z) (fun y => by rw [y, harn] at z; cases z) (by rw [K4 b e z]; exact fun y => by cases y)).trans (K4 b e z)
  have har' : ar' = G.2.2.2 ∨ h ar' = none := by
    rcases hne with y | y
    · rw [y]; exact harp
    · right
      cases c : h ar' with
      | none => rfl
      | some e => rw [K4 ar' e c] at y; cases y
  have hqp : p ≠ q := fun y => by rw [← y, hpc] at hq; cases hq
  have h4p : h4 p = some (.inr (3, vp)) := (hv3 p hqp).trans hpc
  have kd : ∀ (x : Nat) (vs : List Value), h4 x = some (.inr (4, vs)) → h5 x = some (.inr (4, vs)) := fun x vs z => by
    refine (hfr x (fun y => ?_) (fun y => ?_) (by rw [z]; exact fun y => by cases y)).trans z
    · rw [y, h4p] at z
      cases z
    · obtain ⟨-, y2⟩ := hP
      rcases y2 with ⟨y2, -⟩ | ⟨-, -, F, g3, -⟩
      · rw [y, y2, hed4] at z
        cases z
      · have hc : arp ≠ q := fun c => by rw [c, hq] at g3; cases g3
        rw [y, hv3 arp hc, g3] at z
        cases z
  have hnew : q ∉ qs := fun y => by
    obtain ⟨j, ej⟩ := List.getElem?_of_mem y
    obtain ⟨-, s', -, z⟩ := hpl.2 j q ej
    rw [hq] at z; cases z
  refine ⟨K, ⟨ar', c', hS', har'⟩, ?_, fun j x e => ?_⟩
  · rw [List.nodup_append]
    refine ⟨hpl.1, List.nodup_cons.mpr ⟨(fun y => nomatch y), List.nodup_nil⟩, fun a ha b hb => ?_⟩
    rw [List.mem_singleton] at hb
    rw [hb]
    exact fun y => hnew (y ▸ ha)
  · by_cases cj : j < qs.length
    · rw [List.getElem?_append_left cj] at e
      obtain ⟨z1, s', z2, z3⟩ := hpl.2 j x e
      exact ⟨z1, s', z2, kd x _ ((hv3 x (fun y => by rw [y, hq] at z3; cases z3)).trans z3)⟩
    · have hj : j = qs.length := by
        have := (List.getElem?_eq_some_iff.mp e).1
        rw [List.length_append, List.length_singleton] at this
        omega
      subst hj
      rw [List.getElem?_append_right (Nat.le_refl _), Nat.sub_self, List.getElem?_cons_zero] at e
      have e2 := Option.some.inj e
      subst e2
      exact ⟨hqn, s, hs, kd _ _ hv2⟩
-- where nothing was planned yet
theorem pl_0 {mt : Nat} {Rm : Nat → Nat} {ss : List Nat} {h2 : kAH} : kPl h mt Rm ss h2 [] := ⟨List.nodup_nil, fun j x e => by cases e⟩
-- the state while the dates are put on their days: i of them stand
def kPi (G : kG) (pl : Nat) (γ γ' : kGh) (A A' : kAb) (n : Int) (c : Nat) (K : Nat → Int) (ss qs : List Nat) (h2 : kAH) (i : Nat) (h3 : kAH) (ow3 : Nat → Nat × Nat) (dx : Int → List (Int × Int)) : Prop :=
  kRA G h3 pl (ow3, γ'.2) (xMx A' n (c + i) dx) ∧
  (∀ k : Int, 0 ≤ k → k < 28 → kDo (xMx A' n (c + i) dx) (dx k) (48 + i) ∧ ∀ q : Int × Int, q ∈ dx k ↔ q ∈ aDx A k ∨ ∃ j : Nat, j < i ∧ q = (n, (c : Int) + (j : Int)) ∧ K j = k) ∧
  ∀ (b : Nat) (e : va_E), h2 b = some e → gOw γ b = (0, 0) → (∀ j : Nat, j < i → qs[j]? ≠ some b ∧ ss[j]? ≠ some b) → h3 b = some e ∧ ow3 b = (0, 0)
theorem pi_0 {h2 : kAH} {K S : Nat → Int} {t ln : Int} {ss qs : List Nat} (q : kRp G h pl γ A f) (hn : aLv A n) (z : kRA G h2 pl γ A) :
    kPi G pl γ (xDS γ γ.1 (kAgd (gDt γ) n (aMn A n) ss.length qs) (kAgd (gSt γ) n (aMn A n) ss.length ss)) A (xDD A (kAdt A n (aMn A n) ss.length K S t ln) (aDx A)) n (aMn A n) K ss qs h2 0 h2 γ.1 (aDx A) := by
  have hne : ∀ i j : Int, j < (aMn A i : Int) → ¬ (i = n ∧ (aMn A n : Int) ≤ j ∧ j < (aMn A n : Int) + (ss.length : Int)) := fun i j hj y => by
    rw [y.1] at hj
    omega
  have hdo : ∀ k : Int, 0 ≤ k → k < 28 → kDo A (aDx A k) 48 := fun k k0 k1 => rp_do q k0 k1
  have r1 := ra_pre z (dg := kAgd (gDt γ) n (aMn A n) ss.length qs) (sg := kAgd (gSt γ) n (aMn A n) ss.length ss) (dt := kAdt A n (aMn A n) ss.length K S t ln) (fun i j hi j0 j1 => ⟨kAgd_ne (hne i j j1), kAgd_ne (hne i j j1), fun w => kAdt_ne (hne i j j1)⟩) (fun k k0 k1 x hx => by
    obtain ⟨y1, y2, y3, -⟩ := (hdo k k0 k1).2.2.2 x hx
    exact ⟨y1, y2, y3⟩)
  have e1 : xMx (xDD A (kAdt A n (aMn A n) ss.length K S t ln) (aDx A)) n (aMn A n + 0) (aDx A) = xDD A (kAdt A n (aMn A n) ss.length K S t ln) (aDx A) := xMx_1 (A := xDD A (kAdt A n (aMn A n) ss.length K S t ln) (aDx A)) (n := n)
  refine ⟨by rw [e1]; exact r1, fun k k0 k1 => ⟨?_, fun x => ⟨fun y => Or.inl y, fun y => ?_⟩⟩, fun b e u1 u2 _ => ⟨u1, u2⟩⟩
  · rw [e1]
    obtain ⟨v1, v2, v3, v4⟩ := hdo k k0 k1
    have e : ∀ x ∈ aDx A k, kAdt A n (aMn A n) ss.length K S t ln x.1 x.2 1 = aDt A x.1 x.2 1 := fun x hx => kAdt_ne (hne x.1 x.2 (v4 x hx).2.2.1)
    refine ⟨v1, v2, v3.imp_of_mem (fun {a b} ha hb y => ?_), fun x hx => ?_⟩
    · show kAdt A n (aMn A n) ss.length K S t ln a.1 a.2 1 ≤ kAdt A n (aMn A n) ss.length K S t ln b.1 b.2 1
      rw [e a ha, e b hb]; exact y
    · obtain ⟨y1, y2, y3, y4, y5, y6⟩ := v4 x hx
      refine ⟨y1, y2, y3, y4, ?_, ?_⟩
      · show 0 ≤ kAdt A n (aMn A n) ss.length K S t ln x.1 x.2 1
        rw [e x hx]; exact y5
      · show kAdt A n (aMn A n) ss.length K S t ln x.1 x.2 1 ≤ 100
        rw [e x hx]; exact y6
  · rcases y with y | ⟨j, hj, -⟩
    · exact y
    · omega
end KPD
