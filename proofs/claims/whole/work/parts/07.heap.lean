/-! ===== rules: fields, arrays, new, statics, casts ===== -/
-- a field's link: from the class own, place idx: the field kf of the class ci of vwCl
def kFd (own : String) (idx ci kf : Nat) : Prop := ∃ (C : String) (T : u_T) (N : Nat) (ref : String), vwCl[ci]? = some (C, T, N) ∧ (∀ w ∈ u_ws C T N, w ∈ kW0) ∧ kf < N ∧ Cond.fieldLink own idx ref (T kf).2.1 (T kf).2.2.1 ∈ kW0 ∧ (ref = (T kf).1 ∨ Cond.sameField ref (T kf).1 (T kf).2.1 (T kf).2.2.1 ∈ kW0)
-- .. that may be written: type ty; fin: final (then only in the class's own <init>)
def kFp (own : String) (idx ci kf : Nat) (ty : FieldType) (fin : Bool) : Prop := ∃ (C : String) (T : u_T) (N : Nat) (ref : String) (ty0 : Nat → FieldType), vwCl[ci]? = some (C, T, N) ∧ (∀ w ∈ u_ws C T N, w ∈ kW0) ∧ kf < N ∧ Cond.fieldLink own idx ref (T kf).2.1 (T kf).2.2.1 ∈ kW0 ∧ (ref = (T kf).1 ∨ Cond.sameField ref (T kf).1 (T kf).2.1 (T kf).2.2.1 ∈ kW0) ∧
  (∀ k, k < N → parseFieldDescriptor (T k).2.2.1 = some (ty0 k)) ∧ (∀ a, a < N → ∀ b, b < N → a ≠ b → (T a).2.1 ≠ (T b).2.1) ∧ parseFieldDescriptor (T kf).2.2.1 = some ty ∧ (T kf).2.2.2 = fin ∧ (fin = true → (T kf).1 = own)
-- a new object of the class ci of N slots, fs at first
def kNw (own : String) (idx ci N : Nat) (fs : List Value) : Prop := ∃ (C : String) (T : u_T) (ty : Nat → FieldType), vwCl[ci]? = some (C, T, N) ∧ (∀ w ∈ u_ws C T N, w ∈ kW0) ∧ (∀ k, k < N → parseFieldDescriptor (T k).2.2.1 = some (ty k)) ∧ Cond.classLink own idx C ∈ kW0 ∧ Cond.instantiable C N ∈ kW0 ∧ Cond.initialized C ∈ kW0 ∧ (∀ j, j < N → defaultValue (ty j) = vp_V fs j)
abbrev kio (G : kG) (n : Nat) (f : Nat → Int) : va_E := .inl (G.2.1 0, n, .inl (fun j => iI (f j)))
abbrev klo1 (G : kG) (n : Nat) (f : Nat → Int64) : va_E := .inl (G.2.1 1, n, .inr (.inl f))
abbrev kdo (G : kG) (n : Nat) (f : Nat → UInt64) : va_E := .inl (G.2.1 2, n, .inr (.inr (.inr (.inl f))))
abbrev kro (G : kG) (j n : Nat) (f : Nat → Option Nat) : va_E := .inl (G.2.1 j, n, .inr (.inr (.inr (.inr f))))
def kiu (f : Nat → Int) (k : Nat) (x : Int) : Nat → Int := fun j => if j = k then x else f j
theorem kiu_eq (f : Nat → Int) (k : Nat) (x : Int) : upd (fun j => iI (f j)) k (iI x) = fun j => iI (kiu f k x j) := by
  funext j
  unfold upd kiu
  split <;> rfl
theorem k_tys {G : kG} {s : State} (hK : va_K G.1 vwCl (kTys G) s) {cA : ClassId} {ty : FieldType} {j : Nat} {cj : ClassId} (hj : (kTys G)[j]? = some (cj, ty)) (h2 : va_K G.1 vwCl (kTys G ++ [(cA, ty)]) s) : cA = cj := by
  have a := (hK.2 j _ hj).2
  have b := (h2.2 6 (cA, ty) rfl).2
  unfold va_RA at a b
  cases ty with
  | object C =>
    obtain ⟨-, -, -, -, -, a4⟩ := a
    obtain ⟨-, -, -, -, -, b4⟩ := b
    exact Option.some.inj (b4.symm.trans a4)
  | _ => exact Option.some.inj (b.symm.trans a)
section KH
variable {l : Launch} {G : kG} {y : kMR} {d : Nat} {Φ : Option Value → kAH → Prop} {Ψ : String → kAH → Prop} {k n pc pc1 : Nat} {L : List (Option Value)} {st : List Value} {h : kAH}
theorem k_get {idx ci kf a : Nat} {fs : List Value} {v : Value} (hd : decode y.2.1 pc = .ok (.getfield idx, 3)) (hp : pc + 3 = pc1) (hf : kFd y.1.cls idx ci kf) (ha : h a = some (.inr (ci, fs))) (hv : fs[kf]? = some v)
    (kk : kW l G y d Φ Ψ k n pc1 L (v :: st) h) : kW l G y d Φ Ψ k n pc L (.ref a :: st) h := by
  subst hp
  obtain ⟨C, T, N, ref, hc, hin, hk, hlk, hsm⟩ := hf
  intro p e R s m args below meth c H locs cells slots ls F h1 h2 h3 h4 h5
  have F2 := F
  obtain ⟨hx, hb, hml, hr9, hlocks, hnm, hown, htab, hts, hE, -⟩ := F2
  refine va_get hx hb hts hin hown hE.1 (kHp_one h3 ha) 0 rfl hc kf hk (hts _ hlk) ?_ hv hd (kk p e R s m args below meth c H locs cells slots ls F h1 h2 h3 h4 h5)
  intro x hx9
  rcases hsm with e9 | e9
  · rw [e9]; exact hx9
  · exact u_same (hts _ e9) x hx9
theorem k_put {idx ci kf a : Nat} {fs : List Value} {v : Value} {ty : FieldType} {fin : Bool} (hd : decode y.2.1 pc = .ok (.putfield idx, 3)) (hp : pc + 3 = pc1) (hf : kFp y.1.cls idx ci kf ty fin) (hfin : fin = false ∨ y.1.name = "<init>") (ha : h a = some (.inr (ci, fs))) (hl : kf < fs.length) (hn : narrow ty v = v) (hfit : fits ty v = true)
    (kk : kW l G y d Φ Ψ k n pc1 L st (kup h a (.inr (ci, fs.set kf v)))) : kW l G y d Φ Ψ k n pc L (v :: .ref a :: st) h := by
  subst hp
  obtain ⟨C, T, N, ref, ty0, hc, hin, hk, hlk, hsm, hty, hnmz, hpd, hfi, hdecl⟩ := hf
  intro p e R s m args below meth c H locs cells slots ls F h1 h2 h3 h4 h5
  have F2 := F
  obtain ⟨hx, hb, hml, hr9, hlocks, hnm, hown, htab, hts, hE, -⟩ := F2
  obtain ⟨q0, hq0⟩ := kHp_pl h3 ha
  have hsame : ∀ x, s.fieldFound? (T kf).1 (T kf).2.1 (T kf).2.2.1 = some x → s.fieldFound? ref (T kf).2.1 (T kf).2.2.1 = some x := by
    intro x hx9
    rcases hsm with e9 | e9
    · rw [e9]; exact hx9
    · exact u_same (hts _ e9) x hx9
  cases fin with
  | false =>
    exact va_put hx hb hts hin ty0 hty hnmz hown hE.1 (kHp_P h3) (kHp_D h3) h4 q0 hq0 hc kf hk (hts _ hlk) hsame hfi hpd hn hfit hl hd (fun H1 locs1 hP hD hS => kk p e R s m args below meth c H1 locs1 cells slots ls F h1 h2 (kHp_set h3 hq0 hP) hS h5)
  | true =>
    have hi : meth.name = "<init>" := by
      rcases hfin with z | z
      · cases z
      · rw [hnm]; exact z
    exact va_putF hx hb hts hin ty0 hty hnmz hown hE.1 (kHp_P h3) (kHp_D h3) h4 q0 hq0 hc kf hk (hts _ hlk) hsame hfi hi (hdecl rfl) hpd hn hfit hl hd (fun H1 locs1 hP hD hS => kk p e R s m args below meth c H1 locs1 cells slots ls F h1 h2 (kHp_set h3 hq0 hP) hS h5)
theorem k_new {idx ci N : Nat} {fs : List Value} (hd : decode y.2.1 pc = .ok (.new idx, 3)) (hp : pc + 3 = pc1) (hf : kNw y.1.cls idx ci N fs) (hk : 1 ≤ k) (hn : N ≤ n)
    (kk : ∀ q : Nat, h q = none → kW l G y d Φ Ψ (k - 1) (n - N) pc1 L (.ref q :: st) (kup h q (.inr (ci, fs)))) : kW l G y d Φ Ψ k n pc L st h := by
  subst hp
  obtain ⟨C, T, ty, hc, hin, hty, hlk, hins, hini, hfs⟩ := hf
  intro p e R s m args below meth c H locs cells slots ls F h1 h2 h3 h4 h5
  have F2 := F
  obtain ⟨hx, hb, hml, hr9, hlocks, hnm, hown, htab, hts, hE, hfr, hlo, hN, -⟩ := F2
  refine va_new hx hb hts hin ty hty hown (hts _ hlk) (hts _ hins) (hts _ hini) hE.1 (kHp_P h3) (kHp_D h3) h4 (fun q hq => Nat.le_trans hN hq) hc hfs (by omega) (by omega) hd (fun q H1 hP hD hS => ?_)
  obtain ⟨g1, g2⟩ := kHp_push h3 hP hD
  exact kk q g2 p e R s m args below meth c H1 locs (cells + 1) (slots + N) ls F (by omega) (by omega) g1 hS h5
theorem k_newI {z : Int} {N : Nat} (hd : decode y.2.1 pc = .ok (.newarray .int, 2)) (hp : pc + 2 = pc1) (hw : Cond.arrayClass .int ∈ kW0) (hz : z = N) (hN : N ≤ 1000000) (hk : 1 ≤ k) (hn : N ≤ n)
    (kk : ∀ q : Nat, h q = none → kW l G y d Φ Ψ (k - 1) (n - N) pc1 L (.ref q :: st) (kup h q (kio G N (fun _ => 0)))) : kW l G y d Φ Ψ k n pc L (.int (iI z) :: st) h := by
  subst hp
  subst hz
  intro p e R s m args below meth c H locs cells slots ls F h1 h2 h3 h4 h5
  have F2 := F
  obtain ⟨hx, hb, hml, hr9, hlocks, hnm, hown, htab, hts, hE, hfr, hlo, hN9, -⟩ := F2
  refine va_newa (atype := .int) (a0 := (N, .inl (fun _ => iI 0))) (N' := N) hx hb (hts _ hw) rfl hE.1 (kHp_P h3) (kHp_D h3) h4 (fun q hq => Nat.le_trans hN9 hq) (fun cA => by rw [vp_cell_i]; rfl) (by rw [Int32.lt_iff_toInt_lt, iI_toInt (by omega) (by omega), Int32.toInt_zero]; omega) (by rw [iI_cl (by omega) (by omega)]; rfl) (by show N * 4 ≤ _; omega) (by omega) (by omega) hd (fun q cA H1 hK1 hP hD hS => ?_)
  have hcA : cA = G.2.1 0 := k_tys hE.1 (j := 0) rfl hK1
  subst hcA
  obtain ⟨g1, g2⟩ := kHp_push h3 hP hD
  exact kk q g2 p e R s m args below meth c H1 locs (cells + 1) (slots + N) ls F (by omega) (by omega) g1 hS h5
theorem k_newL {z : Int} {N : Nat} (hd : decode y.2.1 pc = .ok (.newarray .long, 2)) (hp : pc + 2 = pc1) (hw : Cond.arrayClass .long ∈ kW0) (hz : z = N) (hN : N ≤ 1000000) (hk : 1 ≤ k) (hn : N ≤ n)
    (kk : ∀ q : Nat, h q = none → kW l G y d Φ Ψ (k - 1) (n - N) pc1 L (.ref q :: st) (kup h q (klo1 G N (fun _ => 0)))) : kW l G y d Φ Ψ k n pc L (.int (iI z) :: st) h := by
  subst hp
  subst hz
  intro p e R s m args below meth c H locs cells slots ls F h1 h2 h3 h4 h5
  have F2 := F
  obtain ⟨hx, hb, hml, hr9, hlocks, hnm, hown, htab, hts, hE, hfr, hlo, hN9, -⟩ := F2
  refine va_newa (atype := .long) (a0 := (N, .inr (.inl (fun _ => 0)))) (N' := N) hx hb (hts _ hw) rfl hE.1 (kHp_P h3) (kHp_D h3) h4 (fun q hq => Nat.le_trans hN9 hq) (fun cA => rfl) (by rw [Int32.lt_iff_toInt_lt, iI_toInt (by omega) (by omega), Int32.toInt_zero]; omega) (by rw [iI_cl (by omega) (by omega)]; rfl) (by show N * 8 ≤ _; omega) (by omega) (by omega) hd (fun q cA H1 hK1 hP hD hS => ?_)
  have hcA : cA = G.2.1 1 := k_tys hE.1 (j := 1) rfl hK1
  subst hcA
  obtain ⟨g1, g2⟩ := kHp_push h3 hP hD
  exact kk q g2 p e R s m args below meth c H1 locs (cells + 1) (slots + N) ls F (by omega) (by omega) g1 hS h5
theorem k_newD {z : Int} {N : Nat} (hd : decode y.2.1 pc = .ok (.newarray .double, 2)) (hp : pc + 2 = pc1) (hw : Cond.arrayClass .double ∈ kW0) (hz : z = N) (hN : N ≤ 1000000) (hk : 1 ≤ k) (hn : N ≤ n)
    (kk : ∀ q : Nat, h q = none → kW l G y d Φ Ψ (k - 1) (n - N) pc1 L (.ref q :: st) (kup h q (kdo G N (fun _ => 0)))) : kW l G y d Φ Ψ k n pc L (.int (iI z) :: st) h := by
  subst hp
  subst hz
  intro p e R s m args below meth c H locs cells slots ls F h1 h2 h3 h4 h5
  have F2 := F
  obtain ⟨hx, hb, hml, hr9, hlocks, hnm, hown, htab, hts, hE, hfr, hlo, hN9, -⟩ := F2
  refine va_newa (atype := .double) (a0 := (N, .inr (.inr (.inr (.inl (fun _ => 0)))))) (N' := N) hx hb (hts _ hw) rfl hE.1 (kHp_P h3) (kHp_D h3) h4 (fun q hq => Nat.le_trans hN9 hq) (fun cA => rfl) (by rw [Int32.lt_iff_toInt_lt, iI_toInt (by omega) (by omega), Int32.toInt_zero]; omega) (by rw [iI_cl (by omega) (by omega)]; rfl) (by show N * 8 ≤ _; omega) (by omega) (by omega) hd (fun q cA H1 hK1 hP hD hS => ?_)
  have hcA : cA = G.2.1 2 := k_tys hE.1 (j := 2) rfl hK1
  subst hcA
  obtain ⟨g1, g2⟩ := kHp_push h3 hP hD
  exact kk q g2 p e R s m args below meth c H1 locs (cells + 1) (slots + N) ls F (by omega) (by omega) g1 hS h5
theorem k_newR (j : Nat) {C : String} {z : Int} {N idx : Nat} (hd : decode y.2.1 pc = .ok (.anewarray idx, 3)) (hp : pc + 3 = pc1) (hw : Cond.classLink y.1.cls idx C ∈ kW0) (hj : (kTys G)[j]? = some (G.2.1 j, .object C)) (hC : C = "java/lang/Object" ∨ C = "CalendaryPlanner$Day" ∨ C = "CalendaryPlanner$Room") (hz : z = N) (hN : N ≤ 1000000) (hk : 1 ≤ k) (hn : N ≤ n)
    (kk : ∀ q : Nat, h q = none → kW l G y d Φ Ψ (k - 1) (n - N) pc1 L (.ref q :: st) (kup h q (kro G j N (fun _ => none)))) : kW l G y d Φ Ψ k n pc L (.int (iI z) :: st) h := by
  subst hp
  subst hz
  intro p e R s m args below meth c H locs cells slots ls F h1 h2 h3 h4 h5
  have F2 := F
  obtain ⟨hx, hb, hml, hr9, hlocks, hnm, hown, htab, hts, hE, hfr, hlo, hN9, -⟩ := F2
  have hao : va_AO C s := by
    obtain ⟨-, -, -, -, -, -, -, -, -, a1, a2, a3, -⟩ := hE
    rcases hC with rfl | rfl | rfl
    · exact a1
    · exact a2
    · exact a3
  refine va_newq (N' := N) hx hb hown (hts _ hw) hao hE.1 (kHp_P h3) (kHp_D h3) h4 (fun q hq => Nat.le_trans hN9 hq) (by rw [Int32.lt_iff_toInt_lt, iI_toInt (by omega) (by omega), Int32.toInt_zero]; omega) (by rw [iI_cl (by omega) (by omega)]; rfl) (by omega) (by omega) (by omega) hd (fun q cA H1 hK1 hP hD hS => ?_)
  have hcA : cA = G.2.1 j := k_tys hE.1 hj hK1
  subst hcA
  obtain ⟨g1, g2⟩ := kHp_push h3 hP hD
  exact kk q g2 p e R s m args below meth c H1 locs (cells + 1) (slots + N) ls F (by omega) (by omega) g1 hS h5
theorem k_iald {a N : Nat} {f : Nat → Int} {i : Int} (hd : decode y.2.1 pc = .ok (.iaload, 1)) (hp : pc + 1 = pc1) (ha : h a = some (kio G N f)) (hi : 0 ≤ i) (hi2 : i < N) (hN : N ≤ 1000000)
    (kk : kW l G y d Φ Ψ k n pc1 L (.int (iI (f i.toNat)) :: st) h) : kW l G y d Φ Ψ k n pc L (.int (iI i) :: .ref a :: st) h := by
  subst hp
  intro p e R s m args below meth c H locs cells slots ls F h1 h2 h3 h4 h5
  obtain ⟨hx, hb, hml, hr9, hlocks, hnm, hown, htab, hts, hE, -⟩ := id F
  refine va_iald hx hb hE.1 (kHp_one h3 ha) 0 0 rfl rfl (iI_in hi hi2 (by omega)) hd ?_
  rw [iI_cl hi (by omega)]
  exact kk p e R s m args below meth c H locs cells slots ls F h1 h2 h3 h4 h5
theorem k_lald {a N : Nat} {f : Nat → Int64} {i : Int} (hd : decode y.2.1 pc = .ok (.laload, 1)) (hp : pc + 1 = pc1) (ha : h a = some (klo1 G N f)) (hi : 0 ≤ i) (hi2 : i < N) (hN : N ≤ 1000000)
    (kk : kW l G y d Φ Ψ k n pc1 L (.long (f i.toNat) :: st) h) : kW l G y d Φ Ψ k n pc L (.int (iI i) :: .ref a :: st) h := by
  subst hp
  intro p e R s m args below meth c H locs cells slots ls F h1 h2 h3 h4 h5
  obtain ⟨hx, hb, hml, hr9, hlocks, hnm, hown, htab, hts, hE, -⟩ := id F
  refine va_lald hx hb hE.1 (kHp_one h3 ha) 0 1 rfl rfl (iI_in hi hi2 (by omega)) hd ?_
  rw [iI_cl hi (by omega)]
  exact kk p e R s m args below meth c H locs cells slots ls F h1 h2 h3 h4 h5
theorem k_dald {a N : Nat} {f : Nat → UInt64} {i : Int} (hd : decode y.2.1 pc = .ok (.daload, 1)) (hp : pc + 1 = pc1) (ha : h a = some (kdo G N f)) (hi : 0 ≤ i) (hi2 : i < N) (hN : N ≤ 1000000)
    (kk : kW l G y d Φ Ψ k n pc1 L (.double (f i.toNat) :: st) h) : kW l G y d Φ Ψ k n pc L (.int (iI i) :: .ref a :: st) h := by
  subst hp
  intro p e R s m args below meth c H locs cells slots ls F h1 h2 h3 h4 h5
  obtain ⟨hx, hb, hml, hr9, hlocks, hnm, hown, htab, hts, hE, -⟩ := id F
  refine va_dald hx hb hE.1 (kHp_one h3 ha) 0 2 rfl rfl (iI_in hi hi2 (by omega)) hd ?_
  rw [iI_cl hi (by omega)]
  exact kk p e R s m args below meth c H locs cells slots ls F h1 h2 h3 h4 h5
theorem k_aald {a N j : Nat} {C : String} {f : Nat → Option Nat} {i : Int} (hd : decode y.2.1 pc = .ok (.aaload, 1)) (hp : pc + 1 = pc1) (ha : h a = some (kro G j N f)) (hj : (kTys G)[j]? = some (G.2.1 j, .object C)) (hi : 0 ≤ i) (hi2 : i < N) (hN : N ≤ 1000000)
    (kk : kW l G y d Φ Ψ k n pc1 L (va_rf (f i.toNat) :: st) h) : kW l G y d Φ Ψ k n pc L (.int (iI i) :: .ref a :: st) h := by
  subst hp
  intro p e R s m args below meth c H locs cells slots ls F h1 h2 h3 h4 h5
  obtain ⟨hx, hb, hml, hr9, hlocks, hnm, hown, htab, hts, hE, -⟩ := id F
  refine va_aldq hx hb hE.1 (kHp_one h3 ha) 0 j rfl hj (iI_in hi hi2 (by omega)) hd ?_
  rw [iI_cl hi (by omega)]
  exact kk p e R s m args below meth c H locs cells slots ls F h1 h2 h3 h4 h5
theorem k_alenI {a N : Nat} {f : Nat → Int} (hd : decode y.2.1 pc = .ok (.arraylength, 1)) (hp : pc + 1 = pc1) (ha : h a = some (kio G N f))
    (kk : kW l G y d Φ Ψ k n pc1 L (.int (iI (N : Int)) :: st) h) : kW l G y d Φ Ψ k n pc L (.ref a :: st) h := by
  subst hp
  intro p e R s m args below meth c H locs cells slots ls F h1 h2 h3 h4 h5
  obtain ⟨hx, hb, hml, hr9, hlocks, hnm, hown, htab, hts, hE, -⟩ := id F
  exact va_alen hx hb hE.1 (kHp_one h3 ha) 0 0 rfl rfl rfl hd (kk p e R s m args below meth c H locs cells slots ls F h1 h2 h3 h4 h5)
theorem k_alenR {a N j : Nat} {C : String} {f : Nat → Option Nat} (hd : decode y.2.1 pc = .ok (.arraylength, 1)) (hp : pc + 1 = pc1) (ha : h a = some (kro G j N f)) (hj : (kTys G)[j]? = some (G.2.1 j, .object C))
    (kk : kW l G y d Φ Ψ k n pc1 L (.int (iI (N : Int)) :: st) h) : kW l G y d Φ Ψ k n pc L (.ref a :: st) h := by
  subst hp
  intro p e R s m args below meth c H locs cells slots ls F h1 h2 h3 h4 h5
  obtain ⟨hx, hb, hml, hr9, hlocks, hnm, hown, htab, hts, hE, -⟩ := id F
  exact va_alen hx hb hE.1 (kHp_one h3 ha) 0 j rfl hj rfl hd (kk p e R s m args below meth c H locs cells slots ls F h1 h2 h3 h4 h5)
-- the empty row of ArrayList
theorem k_alenE (hd : decode y.2.1 pc = .ok (.arraylength, 1)) (hp : pc + 1 = pc1)
    (kk : kW l G y d Φ Ψ k n pc1 L (.int (iI 0) :: st) h) : kW l G y d Φ Ψ k n pc L (.ref G.2.2.2 :: st) h := by
  subst hp
  intro p e R s m args below meth c H locs cells slots ls F h1 h2 h3 h4 h5
  obtain ⟨hx, hb, hml, hr9, hlocks, hnm, hown, htab, hts, hE, -⟩ := id F
  obtain ⟨cell, g1, g2, g3, g4, g5, g6, g7⟩ := hE.2.2.2.2.1
  exact W.alen hx hb (by rw [h4.2.1 _ (Array.getElem?_eq_some_iff.mp g1).1 g7]; exact g1) g2 g5 rfl rfl hd (kk p e R s m args below meth c H locs cells slots ls F h1 h2 h3 h4 h5)
theorem k_gets {idx : Nat} (hd : decode y.2.1 pc = .ok (.getstatic idx, 3)) (hp : pc + 3 = pc1) (hlk : Cond.fieldLink y.1.cls idx "java/util/ArrayList" "DEFAULTCAPACITY_EMPTY_ELEMENTDATA" "[Ljava/lang/Object;" ∈ kW0)
    (kk : kW l G y d Φ Ψ k n pc1 L (.ref G.2.2.2 :: st) h) : kW l G y d Φ Ψ k n pc L st h := by
  subst hp
  intro p e R s m args below meth c H locs cells slots ls F h1 h2 h3 h4 h5
  obtain ⟨hx, hb, hml, hr9, hlocks, hnm, hown, htab, hts, hE, -⟩ := id F
  exact va_gets hx hb hE.2.2.2.1 h4 hown (hts _ hlk) (fun x hx => hx) hd (kk p e R s m args below meth c H locs cells slots ls F h1 h2 h3 h4 h5)
theorem k_iast {a N : Nat} {f : Nat → Int} {i x : Int} (hd : decode y.2.1 pc = .ok (.iastore, 1)) (hp : pc + 1 = pc1) (ha : h a = some (kio G N f)) (hi : 0 ≤ i) (hi2 : i < N) (hN : N ≤ 1000000)
    (kk : kW l G y d Φ Ψ k n pc1 L st (kup h a (kio G N (kiu f i.toNat x)))) : kW l G y d Φ Ψ k n pc L (.int (iI x) :: .int (iI i) :: .ref a :: st) h := by
  subst hp
  intro p e R s m args below meth c H locs cells slots ls F h1 h2 h3 h4 h5
  obtain ⟨hx, hb, hml, hr9, hlocks, hnm, hown, htab, hts, hE, -⟩ := id F
  obtain ⟨q0, hq0⟩ := kHp_pl h3 ha
  refine va_iast hx hb hE.1 (kHp_P h3) (kHp_D h3) h4 q0 0 hq0 rfl (iI_in hi hi2 (by omega)) hd (fun H1 locs1 hP hD hS => ?_)
  rw [iI_cl hi (by omega), kiu_eq] at hP
  exact kk p e R s m args below meth c H1 locs1 cells slots ls F h1 h2 (kHp_set h3 hq0 hP) hS h5
theorem k_last {a N : Nat} {f : Nat → Int64} {i : Int} {x : Int64} (hd : decode y.2.1 pc = .ok (.lastore, 1)) (hp : pc + 1 = pc1) (ha : h a = some (klo1 G N f)) (hi : 0 ≤ i) (hi2 : i < N) (hN : N ≤ 1000000)
    (kk : kW l G y d Φ Ψ k n pc1 L st (kup h a (klo1 G N (vp_updL f i.toNat x)))) : kW l G y d Φ Ψ k n pc L (.long x :: .int (iI i) :: .ref a :: st) h := by
  subst hp
  intro p e R s m args below meth c H locs cells slots ls F h1 h2 h3 h4 h5
  obtain ⟨hx, hb, hml, hr9, hlocks, hnm, hown, htab, hts, hE, -⟩ := id F
  obtain ⟨q0, hq0⟩ := kHp_pl h3 ha
  refine va_last hx hb hE.1 (kHp_P h3) (kHp_D h3) h4 q0 1 hq0 rfl (iI_in hi hi2 (by omega)) hd (fun H1 locs1 hP hD hS => ?_)
  rw [iI_cl hi (by omega)] at hP
  exact kk p e R s m args below meth c H1 locs1 cells slots ls F h1 h2 (kHp_set h3 hq0 hP) hS h5
theorem k_dast {a N : Nat} {f : Nat → UInt64} {i : Int} {x : UInt64} (hd : decode y.2.1 pc = .ok (.dastore, 1)) (hp : pc + 1 = pc1) (ha : h a = some (kdo G N f)) (hi : 0 ≤ i) (hi2 : i < N) (hN : N ≤ 1000000)
    (kk : ∀ f' : Nat → UInt64, f' i.toNat = x → kW l G y d Φ Ψ k n pc1 L st (kup h a (kdo G N f'))) : kW l G y d Φ Ψ k n pc L (.double x :: .int (iI i) :: .ref a :: st) h := by
  subst hp
  intro p e R s m args below meth c H locs cells slots ls F h1 h2 h3 h4 h5
  obtain ⟨hx, hb, hml, hr9, hlocks, hnm, hown, htab, hts, hE, -⟩ := id F
  obtain ⟨q0, hq0⟩ := kHp_pl h3 ha
  refine va_dast hx hb hE.1 (kHp_P h3) (kHp_D h3) h4 q0 2 hq0 rfl (iI_in hi hi2 (by omega)) hd (fun H1 locs1 hP hD hS => ?_)
  rw [iI_cl hi (by omega)] at hP
  exact kk _ (by simp [vf_upd]) p e R s m args below meth c H1 locs1 cells slots ls F h1 h2 (kHp_set h3 hq0 hP) hS h5
-- storing a reference: into Object[] (castable), or into the row of its own class
theorem k_aast {a N v j ci : Nat} {C : String} {r : vw_C} {vs : List Value} {f : Nat → Option Nat} {i : Int} (hd : decode y.2.1 pc = .ok (.aastore, 1)) (hp : pc + 1 = pc1) (ha : h a = some (kro G j N f)) (hj : (kTys G)[j]? = some (G.2.1 j, .object C)) (hv : h v = some (.inr (ci, vs))) (hc : vwCl[ci]? = some r) (hC : C = r.1 ∨ (r.1, C) ∈ kCas) (hi : 0 ≤ i) (hi2 : i < N) (hN : N ≤ 1000000)
    (kk : kW l G y d Φ Ψ k n pc1 L st (kup h a (kro G j N (va_up f i.toNat (some v))))) : kW l G y d Φ Ψ k n pc L (.ref v :: .int (iI i) :: .ref a :: st) h := by
  subst hp
  intro p e R s m args below meth c H locs cells slots ls F h1 h2 h3 h4 h5
  obtain ⟨hx, hb, hml, hr9, hlocks, hnm, hown, htab, hts, hE, -⟩ := id F
  obtain ⟨q0, hq0⟩ := kHp_pl h3 ha
  obtain ⟨q1, hq1⟩ := kHp_pl h3 hv
  rcases hC with e9 | e9
  · subst e9
    refine va_astq hx hb hE.1 (kHp_P h3) (kHp_D h3) h4 q0 j q1 ci hq0 hj hq1 hc (iI_in hi hi2 (by omega)) hd (fun H1 locs1 hP hD hS => ?_)
    rw [iI_cl hi (by omega)] at hP
    exact kk p e R s m args below meth c H1 locs1 cells slots ls F h1 h2 (kHp_set h3 hq0 hP) hS h5
  · refine va_astqO hx hb hE.1 (kHp_P h3) (kHp_D h3) h4 q0 j q1 ci hq0 hj (hE.2.2.2.2.2.2.2.1 _ e9) hq1 hc (iI_in hi hi2 (by omega)) hd (fun H1 locs1 hP hD hS => ?_)
    rw [iI_cl hi (by omega)] at hP
    exact kk p e R s m args below meth c H1 locs1 cells slots ls F h1 h2 (kHp_set h3 hq0 hP) hS h5
theorem k_aastN {a N j : Nat} {C : String} {f : Nat → Option Nat} {i : Int} (hd : decode y.2.1 pc = .ok (.aastore, 1)) (hp : pc + 1 = pc1) (ha : h a = some (kro G j N f)) (hj : (kTys G)[j]? = some (G.2.1 j, .object C)) (hi : 0 ≤ i) (hi2 : i < N) (hN : N ≤ 1000000)
    (kk : kW l G y d Φ Ψ k n pc1 L st (kup h a (kro G j N (va_up f i.toNat none)))) : kW l G y d Φ Ψ k n pc L (.null :: .int (iI i) :: .ref a :: st) h := by
  subst hp
  intro p e R s m args below meth c H locs cells slots ls F h1 h2 h3 h4 h5
  obtain ⟨hx, hb, hml, hr9, hlocks, hnm, hown, htab, hts, hE, -⟩ := id F
  obtain ⟨q0, hq0⟩ := kHp_pl h3 ha
  refine va_astqN hx hb hE.1 (kHp_P h3) (kHp_D h3) h4 q0 j hq0 hj (iI_in hi hi2 (by omega)) hd (fun H1 locs1 hP hD hS => ?_)
  rw [iI_cl hi (by omega)] at hP
  exact kk p e R s m args below meth c H1 locs1 cells slots ls F h1 h2 (kHp_set h3 hq0 hP) hS h5
theorem k_cast {a ci idx : Nat} {r : vw_C} {vs : List Value} (hd : decode y.2.1 pc = .ok (.checkcast idx, 3)) (hp : pc + 3 = pc1) (hlk : Cond.classLink y.1.cls idx r.1 ∈ kW0) (ha : h a = some (.inr (ci, vs))) (hc : vwCl[ci]? = some r)
    (kk : kW l G y d Φ Ψ k n pc1 L (.ref a :: st) h) : kW l G y d Φ Ψ k n pc L (.ref a :: st) h := by
  subst hp
  intro p e R s m args below meth c H locs cells slots ls F h1 h2 h3 h4 h5
  obtain ⟨hx, hb, hml, hr9, hlocks, hnm, hown, htab, hts, hE, -⟩ := id F
  exact va_castS hx hb hown (hts _ hlk) (hE.1.1 ci r hc).2 (va_recv hE.1 (kHp_one h3 ha) (ci := ci) (q0 := 0) hc rfl) hd (kk p e R s m args below meth c H locs cells slots ls F h1 h2 h3 h4 h5)
theorem k_castN {idx : Nat} (hd : decode y.2.1 pc = .ok (.checkcast idx, 3)) (hp : pc + 3 = pc1)
    (kk : kW l G y d Φ Ψ k n pc1 L (.null :: st) h) : kW l G y d Φ Ψ k n pc L (.null :: st) h := by
  subst hp
  intro p e R s m args below meth c H locs cells slots ls F h1 h2 h3 h4 h5
  exact lv_castN F.1 F.2.1 hd (kk p e R s m args below meth c H locs cells slots ls F h1 h2 h3 h4 h5)
theorem k_objInit {a idx : Nat} (hd : decode y.2.1 pc = .ok (.invokespecial idx, 3)) (hp : pc + 3 = pc1) (h7 : Cond.methodLink y.1.cls idx Lib.objectInit ∈ kW0) (h8 : Cond.instanceMethod Lib.objectInit ∈ kW0) (h9 : Cond.code Lib.objectInit ⟨#[0xb1]⟩ 1 none ∈ kW0) (hw : (st.map fun v => v.category).sum ≤ 8)
    (kk : kW l G y d Φ Ψ k n pc1 L st h) : kW l G y d Φ Ψ k n pc L (.ref a :: st) h := by
  subst hp
  intro p e R s m args below meth c H locs cells slots ls F h1 h2 h3 h4 h5
  obtain ⟨hx, hb, hml, hr9, hlocks, hnm, hown, htab, hts, hE, hfr, hlo, -⟩ := id F
  exact W.objInit hx hb hown (hts _ h7) (hts _ h8) (hts _ h9) rfl (by rw [hml]; exact h5.1) rfl hd (Nat.le_trans (by have := kFr_ge d; omega) hfr) (by show 2 * 0 + _ + 12 ≤ _; have := kLo_ge d; omega) (W.eq rfl (kk p e R s m args below meth c H locs cells slots ls F h1 h2 h3 h4 h5))
end KH
