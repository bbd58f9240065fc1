/-! ===== the law from its entry ===== -/
/-! THE CLAIM OUT OF ONE WALK OF THE LAW'S BODY. Your part is whole_start (and what it stands on); all else here is the same for every law, but numbers. -/
def R_law : String := "CalendaryPlannerLaw"
def lw_P (b : Addr) (xs : List Int32) (args : Array Value) (s : State) : Prop := args = #[.ref b] ∧ s.IntsAt b xs ∧ xs.length ≤ 3072 ∧ (Jvm.Cond.and given_1 narrow_1).before args s = true
/-- what a walk over the start with the record d0 says of its end, said of the start itself -/
theorem lw_closed {s t : State} {o : Outcome} {d0 : Drawn} {L : List Loc} {k n : Nat} (hd0 : s.drawn.sameBut d0 lw_cs) (hv : ∃ v, o = .returned v) (hW : (s.setDrawn d0).WarmedH t.vm) (hs : (s.setDrawn d0).sameButNew ({ t with vm := s.vm } : State) L k n) : State.butDraws s t lw_cs (fun t1 => Framed s o t1 L k n) := by
  have h2 : t.drawn = d0 := congrArg State.drawn hs.1
  refine ⟨⟨hv, hW, State.sameButNew.setDrawn hs s.drawn⟩, ?_, by decide⟩
  rw [h2]
  exact hd0
def lw_Q (_ : Array Value) (s : State) (o : Outcome) (t : State) : Prop := o = .returned (some (.int 1)) ∧ State.butDraws s t lw_cs (fun t1 => Framed s o t1 [] 603072 7190634)
def lw_Z (below : List Frame) (a : Array Value) (s : State) : State → Prop := fun t => ∃ o, t.status = .running ∧ Ended t below o ∧ lw_Q a s o t
/-- the law's own end, with 1 on the stack, nothing written that was there before, its room as the claim has it; d0: the record of draws at this point (at the entry s.drawn: begin with 'refine W.base ?_' and 'have hd0 := Drawn.sameBut.refl s.drawn lw_cs') -/
theorem lw_ret {p : Program} {l : Launch} {e : Env} {s : State} {m : MethodId} {below : List Frame} {meth : Method} {c : Code} {b : Nat} {d0 : Drawn} (hd0 : s.drawn.sameBut d0 lw_cs) (hx : p.tables.exec = Jvm.exec) (hb : c.code = code) (hr : meth.sig.returnType = ret) (hlocks : meth.locks = false) {pc : Nat} {H : Heap} {ls : Array Slot} (hdg : decode code pc = .ok (.ireturn, 1)) : W p l e room_1 (s.setDrawn d0) m #[Value.ref b] below meth c H [] 603072 7190634 (lw_Z below #[Value.ref b] s) (F0 m pc ls [.int 1]) := by
  intro T hT X
  obtain ⟨fs, hret, hrun, hended, hW, hframe⟩ := X.leave (v := some (.int 1)) (hlocks := hlocks) (fun h => by rw [hr] at h; cases h)
  have hmeth' : T.vm.method? m = some meth := X.method'
  refine ⟨T.setFrames fs, ?_, .returned (some (.int 1)), hrun, hended, rfl, lw_closed hd0 ⟨_, rfl⟩ hW hframe⟩
  jvm_step X.here [X.here.top, hx, hb, hdg, hmeth', hr, ret, narrow_b1]
  (try refine ⟨rfl, ?_⟩); (try refine ⟨rfl, ?_⟩)
  first | (intro acts; rw [hret _ acts rfl rfl rfl]) | rw [hret _ _ rfl rfl rfl]
  exact Steps.refl _
/-- what holds at the law's entry: the machine, the code, the tables' words (any of lw_tbl by 'hts w (by decide +kernel)'), the script of L ints xs at the cell b, what the Statement gives of the start (any of its parts by flat_of_before) -/
def lw_At (p : Program) (s : State) (m : MethodId) (meth : Method) (c : Code) (b L : Nat) (xs : Nat → Int32) : Prop :=
  p.tables.exec = Jvm.exec ∧ c.code = code ∧ meth.sig.returnType = ret ∧ c.maxLocals = 9 ∧ s.vm.findClass R_law = some m.cls ∧ (∀ w ∈ lw_tbl, w.before #[Value.ref b] s = true) ∧ va_X b L xs s s.heap ∧ b < s.heap.size ∧ meth.locks = false ∧ (Jvm.Cond.and given_1 narrow_1).before #[Value.ref b] s = true ∧ meth.name = "law" ∧ c.exceptionTable.toList = []
-- the numbers of the array classes, the mirror, the script
def kIds (c0 c1 c2 c3 c4 c5 mi b L : Nat) (xs : Nat → Int32) : Nat → Nat := fun k => match k with
  | 0 => c0
  | 1 => c1
  | 2 => c2
  | 3 => c3
  | 4 => c4
  | 5 => c5
  | 6 => mi
  | 7 => b
  | 8 => L
  | k + 9 => ((xs k).toInt + 2147483648).toNat
theorem kIds_scr (c0 c1 c2 c3 c4 c5 mi b L : Nat) (xs : Nat → Int32) (D : va_G) (N ed j : Nat) : kScF (D, kIds c0 c1 c2 c3 c4 c5 mi b L xs, N, ed) j = (xs j).toInt := by
  have h1 := (xs j).le_toInt
  show ((kIds c0 c1 c2 c3 c4 c5 mi b L xs (9 + j) : Nat) : Int) - 2147483648 = _
  rw [Nat.add_comm 9 j]
  show ((((xs j).toInt + 2147483648).toNat : Nat) : Int) - 2147483648 = _
  rw [Int.toNat_of_nonneg (by omega)]
  omega
theorem ke_prim {args : Array Value} {s : State} {ty : FieldType} (h : (Cond.arrayClass ty).before args s = true) : ∃ cA : ClassId, ArrOfT s cA ty ∧ s.vm.findClass ("[" ++ ty.toString) = some cA := by
  obtain ⟨cA, kA, comp, h1, h2, h3⟩ := Cond.arrayClass_spec h
  exact ⟨cA, fun n z => ⟨fun k h => (by cases h), kA, h2, comp, h3⟩, h1⟩
theorem ke_obj {args : Array Value} {s : State} {C : String} (h : (Cond.arrayOver (.object C)).before args s = true) : ∃ cA : ClassId, ArrOfT s cA (.object C) ∧ va_RA s cA (.object C) := by
  obtain ⟨comp, cA, kA, h1, h2, h3, h4, h5⟩ := Cond.arrayOver_spec h
  exact ⟨cA, fun n z => ⟨fun k h => (by cases h), kA, h3, comp, h4⟩, kA, comp, h3, h4, h1, h5⟩
theorem ke_in : ∀ q ∈ vwCl, (∀ w ∈ u_ws q.1 q.2.1 q.2.2, w ∈ lw_tbl) ∧ Cond.instantiable q.1 q.2.2 ∈ lw_tbl := by decide +kernel
theorem ke_cls {args : Array Value} {s : State} (hts : ∀ w ∈ lw_tbl, w.before args s = true) : ∃ (dC : Nat → ClassId) (dI : Nat → Nat → Nat), ∀ (k : Nat) (q : vw_C), vwCl[k]? = some q → u_Kn s q.1 q.2.1 q.2.2 (dC k) (dI k) := by
  have h2 : ∀ k : Nat, ∃ z : ClassId × (Nat → Nat), ∀ q : vw_C, vwCl[k]? = some q → u_Kn s q.1 q.2.1 q.2.2 z.1 z.2 := by
    intro k
    cases e : vwCl[k]? with
    | none => exact ⟨(0, fun _ => 0), fun q hq => by cases hq⟩
    | some q0 =>
      obtain ⟨i1, i2⟩ := ke_in q0 (List.mem_of_getElem? e)
      obtain ⟨cC, iS, h⟩ := u_known (n := q0.2.2) hts i1 (hts _ i2)
      exact ⟨(cC, iS), fun q hq => by cases hq; exact h⟩
  exact ⟨fun k => (Classical.choose (h2 k)).1, fun k => (Classical.choose (h2 k)).2, fun k q hq => Classical.choose_spec (h2 k) q hq⟩
theorem ke_str : ∀ q ∈ kStrs, Cond.stringRef q.1 q.2.1 q.2.2 ∈ lw_tbl ∧ Cond.exactly (.string q.1 q.2.1) "java/lang/String" ∈ flatC (Jvm.Cond.and given_1 narrow_1) := by decide +kernel
theorem ke_nc : ∀ q ∈ kNcs, Cond.not (.castable q.1 q.2) ∈ flatC (Jvm.Cond.and given_1 narrow_1) := by decide +kernel
theorem ke_ca : ∀ q ∈ kCas, Cond.castable q.1 q.2 ∈ lw_tbl := by decide +kernel
theorem ke_ns : ∀ q ∈ kNst, Cond.methodLinkNest q.1 q.2.1 q.2.2.1 q.2.2.2 ∈ lw_tbl := by decide +kernel
theorem kEnv_of {p : Program} {s : State} {m : MethodId} {meth : Method} {c : Code} {b L : Nat} {xs : Nat → Int32} (C0 : lw_At p s m meth c b L xs) :
    ∃ G : kG, G.2.2.1 = s.heap.size ∧ kScB G = b ∧ kScL G = L ∧ (∀ j : Nat, -2147483648 ≤ kScF G j ∧ kScF G j < 2147483648) ∧ kEnv G s s.heap := by
  obtain ⟨-, -, -, -, -, hts, hX, hbl, -, hgv, -⟩ := C0
  have hn := flat_of_before _ hgv
  have hA : ∀ a : Nat, a < s.heap.size → ¬ (fun q : Nat => s.heap.size ≤ q) a := fun a h => Nat.not_le.mpr h
  obtain ⟨dC, dI, hcl⟩ := ke_cls hts
  obtain ⟨c0, a0, f0⟩ := ke_prim (hts (.arrayClass .int) (List.mem_filter.mp aw_int).1)
  obtain ⟨c1, a1, f1⟩ := ke_prim (hts (.arrayClass .long) (List.mem_filter.mp aw_long).1)
  obtain ⟨c2, a2, f2⟩ := ke_prim (hts (.arrayClass .double) (List.mem_filter.mp aw_double).1)
  obtain ⟨c3, a3, r3⟩ := ke_obj (hts (.arrayOver (.object "java/lang/Object")) (by decide +kernel))
  obtain ⟨c4, a4, r4⟩ := ke_obj (hts (.arrayOver (.object "CalendaryPlanner$Day")) (by decide +kernel))
  obtain ⟨c5, a5, r5⟩ := ke_obj (hts (.arrayOver (.object "CalendaryPlanner$Room")) (by decide +kernel))
  obtain ⟨mi, hmi⟩ := va_Mi.of (hn (.isRef (.mirror "[Ljava/lang/Object;")) (by decide +kernel))
  obtain ⟨ed, he, hT⟩ := va_Tof (tm := .static "java/util/ArrayList" "DEFAULTCAPACITY_EMPTY_ELEMENTDATA" "[Ljava/lang/Object;") (ty := .object "java/lang/Object") (N := 0) (f := fun _ => .null) (A := fun q : Nat => s.heap.size ≤ q) (by decide) (hn (.arrayOf (.static "java/util/ArrayList" "DEFAULTCAPACITY_EMPTY_ELEMENTDATA" "[Ljava/lang/Object;") (.object "java/lang/Object")) (by decide +kernel)) (va_eqt (hn (.eq (.length (.static "java/util/ArrayList" "DEFAULTCAPACITY_EMPTY_ELEMENTDATA" "[Ljava/lang/Object;")) (.int 0)) (by decide +kernel))) (fun j h => absurd h (Nat.not_lt_zero _)) hA
  have hZ := va_Zref (hts (.laysStatic "java/util/ArrayList" "DEFAULTCAPACITY_EMPTY_ELEMENTDATA" "[Ljava/lang/Object;") (by decide +kernel)) (hts (.initialized "java/util/ArrayList") (by decide +kernel)) he hA
  have hU := vx_Zqof (hts (.laysStatic Bundle.tN "UNASSIGNED_STACK" Bundle.steD) (by decide +kernel)) (hts (.initialized Bundle.tN) (by decide +kernel)) (hn (.isRef (.static Bundle.tN "UNASSIGNED_STACK" Bundle.steD)) (by decide +kernel)) hA
  have hV := vx_Zqof (hts (.laysStatic Bundle.tN "SUPPRESSED_SENTINEL" Bundle.listD) (by decide +kernel)) (hts (.initialized Bundle.tN) (by decide +kernel)) (hn (.isRef (.static Bundle.tN "SUPPRESSED_SENTINEL" Bundle.listD)) (by decide +kernel)) hA
  refine ⟨((dC, dI), kIds c0 c1 c2 c3 c4 c5 mi b L xs, s.heap.size, ed), rfl, rfl, rfl, fun j => ?_, ⟨hcl, ?_⟩, hU, hV, hZ, hT, ?_, ?_, ?_, ?_, va_AO.of (hts (.arrayOver (.object "java/lang/Object")) (by decide +kernel)), va_AO.of (hts (.arrayOver (.object "CalendaryPlanner$Day")) (by decide +kernel)), va_AO.of (hts (.arrayOver (.object "CalendaryPlanner$Room")) (by decide +kernel)),
    va_Dc.of (hts (.declares ⟨"java/lang/Object", "getClass", "()Ljava/lang/Class;"⟩) (by decide +kernel)), hmi, ?_, ?_, hA b hbl⟩
  · rw [kIds_scr]
    have h1 := (xs j).le_toInt
    have h2 := (xs j).toInt_lt
    omega
  · intro k q hk
    match k, hk with
    | 0, hk => cases hk; exact ⟨a0, f0⟩
    | 1, hk => cases hk; exact ⟨a1, f1⟩
    | 2, hk => cases hk; exact ⟨a2, f2⟩
    | 3, hk => cases hk; exact ⟨a3, r3⟩
    | 4, hk => cases hk; exact ⟨a4, r4⟩
    | 5, hk => cases hk; exact ⟨a5, r5⟩
    | k + 6, hk => cases hk
  · intro q hq
    obtain ⟨i1, i2⟩ := ke_str q hq
    obtain ⟨a, -, -, -, ha, -⟩ := Cond.exactly_spec (hn _ i2)
    exact ⟨a, vk_R.of (hts _ i1) ha⟩
  · exact fun q hq => va_Nc.of (hn _ (ke_nc q hq))
  · exact fun q hq => va_Nw.of rfl (hts _ (ke_ca q hq))
  · exact fun q hq => va_Nw.of rfl (hts _ (ke_ns q hq))
  · exact fun w hw => va_Nw.of (kFace_on hw).2 (hts _ (List.mem_filter.mp hw).1)
  · have e : (fun j => iI (kScF ((dC, dI), kIds c0 c1 c2 c3 c4 c5 mi b L xs, s.heap.size, ed) j)) = xs := by
      funext j
      rw [kIds_scr, iI_of]
    show va_X b L (fun j => iI (kScF ((dC, dI), kIds c0 c1 c2 c3 c4 c5 mi b L xs, s.heap.size, ed) j)) s s.heap
    rw [e]
    exact hX
theorem ke_flags {l : Launch} (hflags : l.flags = flags0) : l.stackTraces = false := by
  unfold Launch.stackTraces
  rw [hflags]
  decide +kernel
/-- from the entry, for every script of at most 3072 ints, the law comes to its end with true -/
theorem whole_start {p : Program} {e : Env} {s : State} {m : MethodId} {below : List Frame} {meth : Method} {c : Code} (l : Launch) (hflags : l.flags = flags0) {b L : Nat} {xs : Nat → Int32} (hL : L ≤ 3072) (C0 : lw_At p s m meth c b L xs) : W p l e room_1 s m #[Value.ref b] below meth c s.heap [] 0 0 (lw_Z below #[Value.ref b] s) (entryFrame m ([Value.ref b] : List Value).toArray 9) := by
  obtain ⟨G, hN, hB, hLn, hsr, hE⟩ := kEnv_of C0
  obtain ⟨hx, hb, hr, hml, hown, hts, hX, hbl, hlocks, hgv, hnm, htab⟩ := C0
  have hl := ke_flags hflags
  have hl9 := lv_entry ([.ref b]) (n := 9) (Nat.le_of_ble_eq_true rfl)
  rw [lg_entry_eq]
  have K := w_law (G := G) hl hsr (by rw [hLn]; exact hL) p e room_1 s m #[Value.ref b] below meth c s.heap [] 0 0 _ ⟨hx, hb, hml, hr, hlocks, hnm, hown, htab, fun w hw => hts w (List.mem_filter.mp hw).1, hE, Nat.le_of_ble_eq_true rfl, Nat.le_of_ble_eq_true rfl, Nat.le_of_eq hN, hl⟩ (Nat.le_of_ble_eq_true rfl) (Nat.le_of_ble_eq_true rfl) (fun a e9 h9 => by cases h9) va_S.rf (by rw [hB]; exact hl9)
  intro T hT X
  obtain ⟨t, a1, o, b1, b2, hQ⟩ := K T hT X
  refine ⟨t, a1, o, b1, b2, ?_⟩
  rcases hQ with ⟨⟨⟨v, h', ho, hv, -⟩, -⟩, L9, hF, hfr⟩ | ⟨q, -, E, ce, L9, ⟨⟨h', hno, -⟩, -⟩, -⟩
  · obtain ⟨hv9, hW9, hs9⟩ := hF
    refine ⟨ho.trans (by rw [hv]; rfl), lw_closed (d0 := s.drawn) (Drawn.sameBut.refl s.drawn lw_cs) hv9 hW9 (State.sameButNew.weaken hs9 (fun z hz hlt => absurd hlt (Nat.not_lt.mpr ?_)) (Nat.le_refl _) (Nat.le_refl _))⟩
    have h1 : G.2.2.1 ≤ z.base := hfr z hz
    rw [hN] at h1
    exact h1
  · exact hno.elim
