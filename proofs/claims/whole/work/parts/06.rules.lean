/-! ===== rules: an instruction of the judgement kW out of the kit's row for it ===== -/
section KR
variable {l : Launch} {G : kG} {y : kMR} {d : Nat} {Φ : Option Value → kAH → Prop} {Ψ : String → kAH → Prop} {k n pc pc1 : Nat} {L : List (Option Value)} {st : List Value} {h : kAH}
theorem kC_of {mc ms : Nat} {as : List Value} (hl : l.stackTraces = false) (hy : plainName y.1.cls = true) (hh : y.2.2.2.2 = []) (hlen : (lg_sl as).length ≤ y.2.2.1) (hL : kpr 0 L = lv_args 0 as) (kk : kW l G y d Φ Ψ mc ms 0 L [] h) : kC l G y d mc ms as h Φ Ψ := by
  refine vx_ofW (cc := y.2.1) (maxL := y.2.2.1) (ret := y.2.2.2.1) (ws' := kW0) hy ?_ ?_
  · show kHd y :: kW0 = _
    unfold kHd
    rw [hh]
    rfl
  · intro p e s m args below meth c s₁ B hml ht hv
    obtain ⟨rfl, hE, hp, hN⟩ := hv
    have hts := atoms_spec (ws := kws y) B.pre
    have hl9 := lv_entry as (n := y.2.2.1) hlen
    rw [lg_entry_eq]
    rw [← hL] at hl9
    have hnil : c.exceptionTable.toList = [] := List.eq_nil_iff_forall_not_mem.mpr fun x hx => ht x hx
    exact kk p e _ s m _ below meth c s.heap [] 0 0 _ ⟨B.exec, B.bytes, hml, B.returns, B.notSynchronized, (name_of_methodNamed B.named B.method).1, findClass_of_methodNamed B.named, by rw [hh, hnil]; rfl, fun w hw => hts w (List.mem_cons_of_mem _ hw), hE, Nat.le_refl _, Nat.le_refl _, hN, hl⟩ (by rw [Nat.zero_add]; exact Nat.le_refl _) (by rw [Nat.zero_add]; exact Nat.le_refl _) hp va_S.rf hl9
theorem kC_ofH {mc ms : Nat} {as : List Value} (hl : l.stackTraces = false) (hy : plainName y.1.cls = true) (hh : y.2.2.2.2.isEmpty = false) (hlen : (lg_sl as).length ≤ y.2.2.1) (hL : kpr 0 L = lv_args 0 as) (kk : kW l G y d Φ Ψ mc ms 0 L [] h) : kC l G y d mc ms as h Φ Ψ := by
  have hHd : kHd y = Cond.codeWith y.1 y.2.1 y.2.2.1 y.2.2.2.1 y.2.2.2.2 := by
    unfold kHd
    rw [hh]
    rfl
  refine vx_ofWH (cc := y.2.1) (maxL := y.2.2.1) (ret := y.2.2.2.1) (hh := y.2.2.2.2) (ws' := kW0) hy ?_ ?_
  · show kHd y :: kW0 = _
    rw [hHd]
  · intro p e s m args below meth c s₁ B hml hv
    obtain ⟨rfl, hE, hp, hN⟩ := hv
    have hts := atoms_spec (ws := kws y) B.pre
    have hl9 := lv_entry as (n := y.2.2.1) hlen
    rw [lg_entry_eq]
    rw [← hL] at hl9
    have ht : c.exceptionTable.toList = tableOf y.2.2.2.2 := vx_table (x := y.1) B (by have h9 := hts (kHd y) List.mem_cons_self; rw [hHd] at h9; exact h9)
    exact kk p e _ s m _ below meth c s.heap [] 0 0 _ ⟨B.exec, B.bytes, hml, B.returns, B.notSynchronized, (name_of_methodNamed B.named B.method).1, findClass_of_methodNamed B.named, ht, fun w hw => hts w (List.mem_cons_of_mem _ hw), hE, Nat.le_refl _, Nat.le_refl _, hN, hl⟩ (by rw [Nat.zero_add]; exact Nat.le_refl _) (by rw [Nat.zero_add]; exact Nat.le_refl _) hp va_S.rf hl9
theorem k_pure {pc' : Nat} {L' : List (Option Value)} {st' : List Value}
    (row : ∀ (p : Program) (e : Env) (R : Room) (s : State) (m : MethodId) (args : Array Value) (below : List Frame) (meth : Method) (c : Code) (H : Heap) (locs : List Loc) (cells slots : Nat) (Q : State → Prop) (ls : Array Slot), p.tables.exec = Jvm.exec → c.code = y.2.1 → lv_has ls y.2.2.1 (kpr 0 L) →
      (∀ ls' : Array Slot, lv_has ls' y.2.2.1 (kpr 0 L') → W p l e R s m args below meth c H locs cells slots Q (F0 m pc' ls' st')) → W p l e R s m args below meth c H locs cells slots Q (F0 m pc ls st))
    (kk : kW l G y d Φ Ψ k n pc' L' st' h) : kW l G y d Φ Ψ k n pc L st h := by
  intro p e R s m args below meth c H locs cells slots ls F h1 h2 h3 h4 h5
  exact row p e R s m args below meth c H locs cells slots _ ls F.1 F.2.1 h5 (fun ls' h6 => kk p e R s m args below meth c H locs cells slots ls' F h1 h2 h3 h4 h6)
theorem k_iconst {z : Int} (hd : decode y.2.1 pc = .ok (.iconst z, 1)) (hp : pc + 1 = pc1)  (kk : kW l G y d Φ Ψ k n pc1 L (.int (iI z) :: st) h) : kW l G y d Φ Ψ k n pc L (st) h := by
  subst hp
  refine k_pure ?_ kk
  intro p e R s m args below meth c H locs cells slots Q ls hx hb hl kk
  exact lv_iconst hx hb hd rfl (kk ls hl)
theorem k_bipush {z : Int} (v : Int) (hd : decode y.2.1 pc = .ok (.bipush z, 2)) (hp : pc + 2 = pc1) (hv : (Int8.ofInt z).toInt32 = iI v) (kk : kW l G y d Φ Ψ k n pc1 L (.int (iI v) :: st) h) : kW l G y d Φ Ψ k n pc L (st) h := by
  subst hp
  refine k_pure ?_ kk
  intro p e R s m args below meth c H locs cells slots Q ls hx hb hl kk
  exact lv_bipush hx hb hd hv (kk ls hl)
theorem k_sipush {z : Int} (v : Int) (hd : decode y.2.1 pc = .ok (.sipush z, 3)) (hp : pc + 3 = pc1) (hv : (Int16.ofInt z).toInt32 = iI v) (kk : kW l G y d Φ Ψ k n pc1 L (.int (iI v) :: st) h) : kW l G y d Φ Ψ k n pc L (st) h := by
  subst hp
  refine k_pure ?_ kk
  intro p e R s m args below meth c H locs cells slots Q ls hx hb hl kk
  exact lv_sipush hx hb hd hv (kk ls hl)
theorem k_lconst {z : Fin 2} (hd : decode y.2.1 pc = .ok (.lconst z, 1)) (hp : pc + 1 = pc1)  (kk : kW l G y d Φ Ψ k n pc1 L (.long (Int64.ofNat (z : Nat)) :: st) h) : kW l G y d Φ Ψ k n pc L (st) h := by
  subst hp
  refine k_pure ?_ kk
  intro p e R s m args below meth c H locs cells slots Q ls hx hb hl kk
  exact lv_lconst hx hb hd rfl (kk ls hl)
theorem k_fconst0  (hd : decode y.2.1 pc = .ok (.fconst 0, 1)) (hp : pc + 1 = pc1)  (kk : kW l G y d Φ Ψ k n pc1 L (.float 0 :: st) h) : kW l G y d Φ Ψ k n pc L (st) h := by
  subst hp
  refine k_pure ?_ kk
  intro p e R s m args below meth c H locs cells slots Q ls hx hb hl kk
  exact lv_fconst0 hx hb hd (kk ls hl)
theorem k_dconst0  (hd : decode y.2.1 pc = .ok (.dconst 0, 1)) (hp : pc + 1 = pc1)  (kk : kW l G y d Φ Ψ k n pc1 L (.double 0 :: st) h) : kW l G y d Φ Ψ k n pc L (st) h := by
  subst hp
  refine k_pure ?_ kk
  intro p e R s m args below meth c H locs cells slots Q ls hx hb hl kk
  exact lv_dconst0 hx hb hd (kk ls hl)
theorem k_null  (hd : decode y.2.1 pc = .ok (.aconst_null, 1)) (hp : pc + 1 = pc1)  (kk : kW l G y d Φ Ψ k n pc1 L (.null :: st) h) : kW l G y d Φ Ψ k n pc L (st) h := by
  subst hp
  refine k_pure ?_ kk
  intro p e R s m args below meth c H locs cells slots Q ls hx hb hl kk
  exact lv_null hx hb hd (kk ls hl)
theorem k_iload_n {i : Fin 4} {x : Int32} (hd : decode y.2.1 pc = .ok (.iload_n i, 1)) (hp : pc + 1 = pc1) (hL : L[(i : Nat)]? = some (some (.int x))) (kk : kW l G y d Φ Ψ k n pc1 L (.int x :: st) h) : kW l G y d Φ Ψ k n pc L (st) h := by
  subst hp
  refine k_pure ?_ kk
  intro p e R s m args below meth c H locs cells slots Q ls hx hb hl kk
  exact lv_iload_n hx hb hd rfl (klo hl hL) (kk ls hl)
theorem k_iload {i : Nat} {x : Int32} (hd : decode y.2.1 pc = .ok (.iload i, 2)) (hp : pc + 2 = pc1) (hL : L[i]? = some (some (.int x))) (kk : kW l G y d Φ Ψ k n pc1 L (.int x :: st) h) : kW l G y d Φ Ψ k n pc L (st) h := by
  subst hp
  refine k_pure ?_ kk
  intro p e R s m args below meth c H locs cells slots Q ls hx hb hl kk
  exact lv_iload hx hb hd (klo hl hL) (kk ls hl)
theorem k_lload_n {i : Fin 4} {x : Int64} (hd : decode y.2.1 pc = .ok (.lload_n i, 1)) (hp : pc + 1 = pc1) (hL : L[(i : Nat)]? = some (some (.long x))) (kk : kW l G y d Φ Ψ k n pc1 L (.long x :: st) h) : kW l G y d Φ Ψ k n pc L (st) h := by
  subst hp
  refine k_pure ?_ kk
  intro p e R s m args below meth c H locs cells slots Q ls hx hb hl kk
  exact lv_lload_n hx hb hd rfl (klo hl hL) (kk ls hl)
theorem k_lload {i : Nat} {x : Int64} (hd : decode y.2.1 pc = .ok (.lload i, 2)) (hp : pc + 2 = pc1) (hL : L[i]? = some (some (.long x))) (kk : kW l G y d Φ Ψ k n pc1 L (.long x :: st) h) : kW l G y d Φ Ψ k n pc L (st) h := by
  subst hp
  refine k_pure ?_ kk
  intro p e R s m args below meth c H locs cells slots Q ls hx hb hl kk
  exact lv_lload hx hb hd (klo hl hL) (kk ls hl)
theorem k_fload_n {i : Fin 4} {x : UInt32} (hd : decode y.2.1 pc = .ok (.fload_n i, 1)) (hp : pc + 1 = pc1) (hL : L[(i : Nat)]? = some (some (.float x))) (kk : kW l G y d Φ Ψ k n pc1 L (.float x :: st) h) : kW l G y d Φ Ψ k n pc L (st) h := by
  subst hp
  refine k_pure ?_ kk
  intro p e R s m args below meth c H locs cells slots Q ls hx hb hl kk
  exact lv_fload_n hx hb hd rfl (klo hl hL) (kk ls hl)
theorem k_fload {i : Nat} {x : UInt32} (hd : decode y.2.1 pc = .ok (.fload i, 2)) (hp : pc + 2 = pc1) (hL : L[i]? = some (some (.float x))) (kk : kW l G y d Φ Ψ k n pc1 L (.float x :: st) h) : kW l G y d Φ Ψ k n pc L (st) h := by
  subst hp
  refine k_pure ?_ kk
  intro p e R s m args below meth c H locs cells slots Q ls hx hb hl kk
  exact lv_fload hx hb hd (klo hl hL) (kk ls hl)
theorem k_dload_n {i : Fin 4} {x : UInt64} (hd : decode y.2.1 pc = .ok (.dload_n i, 1)) (hp : pc + 1 = pc1) (hL : L[(i : Nat)]? = some (some (.double x))) (kk : kW l G y d Φ Ψ k n pc1 L (.double x :: st) h) : kW l G y d Φ Ψ k n pc L (st) h := by
  subst hp
  refine k_pure ?_ kk
  intro p e R s m args below meth c H locs cells slots Q ls hx hb hl kk
  exact lv_dload_n hx hb hd rfl (klo hl hL) (kk ls hl)
theorem k_dload {i : Nat} {x : UInt64} (hd : decode y.2.1 pc = .ok (.dload i, 2)) (hp : pc + 2 = pc1) (hL : L[i]? = some (some (.double x))) (kk : kW l G y d Φ Ψ k n pc1 L (.double x :: st) h) : kW l G y d Φ Ψ k n pc L (st) h := by
  subst hp
  refine k_pure ?_ kk
  intro p e R s m args below meth c H locs cells slots Q ls hx hb hl kk
  exact lv_dload hx hb hd (klo hl hL) (kk ls hl)
theorem k_aload_n {i : Fin 4} {x : Nat} (hd : decode y.2.1 pc = .ok (.aload_n i, 1)) (hp : pc + 1 = pc1) (hL : L[(i : Nat)]? = some (some (.ref x))) (kk : kW l G y d Φ Ψ k n pc1 L (.ref x :: st) h) : kW l G y d Φ Ψ k n pc L (st) h := by
  subst hp
  refine k_pure ?_ kk
  intro p e R s m args below meth c H locs cells slots Q ls hx hb hl kk
  exact lv_aload_n hx hb hd rfl (klo hl hL) (kk ls hl)
theorem k_aload {i : Nat} {x : Nat} (hd : decode y.2.1 pc = .ok (.aload i, 2)) (hp : pc + 2 = pc1) (hL : L[i]? = some (some (.ref x))) (kk : kW l G y d Φ Ψ k n pc1 L (.ref x :: st) h) : kW l G y d Φ Ψ k n pc L (st) h := by
  subst hp
  refine k_pure ?_ kk
  intro p e R s m args below meth c H locs cells slots Q ls hx hb hl kk
  exact lv_aload hx hb hd (klo hl hL) (kk ls hl)
theorem k_aload_nN {i : Fin 4} (hd : decode y.2.1 pc = .ok (.aload_n i, 1)) (hp : pc + 1 = pc1) (hL : L[(i : Nat)]? = some (some .null)) (kk : kW l G y d Φ Ψ k n pc1 L (.null :: st) h) : kW l G y d Φ Ψ k n pc L (st) h := by
  subst hp
  refine k_pure ?_ kk
  intro p e R s m args below meth c H locs cells slots Q ls hx hb hl kk
  exact lv_aload_nN hx hb hd rfl (klo hl hL) (kk ls hl)
theorem k_aloadN {i : Nat} (hd : decode y.2.1 pc = .ok (.aload i, 2)) (hp : pc + 2 = pc1) (hL : L[i]? = some (some .null)) (kk : kW l G y d Φ Ψ k n pc1 L (.null :: st) h) : kW l G y d Φ Ψ k n pc L (st) h := by
  subst hp
  refine k_pure ?_ kk
  intro p e R s m args below meth c H locs cells slots Q ls hx hb hl kk
  exact lv_aloadN hx hb hd (klo hl hL) (kk ls hl)
theorem k_aload_nq {i : Fin 4} {r : Option Nat} (hd : decode y.2.1 pc = .ok (.aload_n i, 1)) (hp : pc + 1 = pc1) (hL : L[(i : Nat)]? = some (some (va_rf r))) (kk : kW l G y d Φ Ψ k n pc1 L (va_rf r :: st) h) : kW l G y d Φ Ψ k n pc L (st) h := by
  subst hp
  refine k_pure ?_ kk
  intro p e R s m args below meth c H locs cells slots Q ls hx hb hl kk
  cases r with
  | none => exact lv_aload_nN hx hb hd rfl (klo hl hL) (kk ls hl)
  | some x => exact lv_aload_n hx hb hd rfl (klo hl hL) (kk ls hl)
theorem k_aloadq {i : Nat} {r : Option Nat} (hd : decode y.2.1 pc = .ok (.aload i, 2)) (hp : pc + 2 = pc1) (hL : L[i]? = some (some (va_rf r))) (kk : kW l G y d Φ Ψ k n pc1 L (va_rf r :: st) h) : kW l G y d Φ Ψ k n pc L (st) h := by
  subst hp
  refine k_pure ?_ kk
  intro p e R s m args below meth c H locs cells slots Q ls hx hb hl kk
  cases r with
  | none => exact lv_aloadN hx hb hd (klo hl hL) (kk ls hl)
  | some x => exact lv_aload hx hb hd (klo hl hL) (kk ls hl)
theorem k_istore_n {i : Fin 4} {x : Int32} (hd : decode y.2.1 pc = .ok (.istore_n i, 1)) (hp : pc + 1 = pc1) (hn : (i : Nat) < y.2.2.1) (kk : kW l G y d Φ Ψ k n pc1 (kset1 L i (.int x)) st h) : kW l G y d Φ Ψ k n pc L (.int x :: st) h := by
  subst hp
  refine k_pure ?_ kk
  intro p e R s m args below meth c H locs cells slots Q ls hx hb hl kk
  exact lv_istore_n hx hb hd rfl hl hn rfl (fun ls' h6 => kk ls' (kset1_has h6))
theorem k_istore {i : Nat} {x : Int32} (hd : decode y.2.1 pc = .ok (.istore i, 2)) (hp : pc + 2 = pc1) (hn : i < y.2.2.1) (kk : kW l G y d Φ Ψ k n pc1 (kset1 L i (.int x)) st h) : kW l G y d Φ Ψ k n pc L (.int x :: st) h := by
  subst hp
  refine k_pure ?_ kk
  intro p e R s m args below meth c H locs cells slots Q ls hx hb hl kk
  exact lv_istore hx hb hd hl hn rfl (fun ls' h6 => kk ls' (kset1_has h6))
theorem k_lstore_n {i : Fin 4} {x : Int64} (hd : decode y.2.1 pc = .ok (.lstore_n i, 1)) (hp : pc + 1 = pc1) (hn : (i : Nat) + 1 < y.2.2.1) (kk : kW l G y d Φ Ψ k n pc1 (kset2 L i (.long x)) st h) : kW l G y d Φ Ψ k n pc L (.long x :: st) h := by
  subst hp
  refine k_pure ?_ kk
  intro p e R s m args below meth c H locs cells slots Q ls hx hb hl kk
  exact lv_lstore_n hx hb hd rfl hl hn rfl (fun ls' h6 => kk ls' (kset2_has h6))
theorem k_lstore {i : Nat} {x : Int64} (hd : decode y.2.1 pc = .ok (.lstore i, 2)) (hp : pc + 2 = pc1) (hn : i + 1 < y.2.2.1) (kk : kW l G y d Φ Ψ k n pc1 (kset2 L i (.long x)) st h) : kW l G y d Φ Ψ k n pc L (.long x :: st) h := by
  subst hp
  refine k_pure ?_ kk
  intro p e R s m args below meth c H locs cells slots Q ls hx hb hl kk
  exact lv_lstore hx hb hd hl hn rfl (fun ls' h6 => kk ls' (kset2_has h6))
theorem k_fstore_n {i : Fin 4} {x : UInt32} (hd : decode y.2.1 pc = .ok (.fstore_n i, 1)) (hp : pc + 1 = pc1) (hn : (i : Nat) < y.2.2.1) (kk : kW l G y d Φ Ψ k n pc1 (kset1 L i (.float x)) st h) : kW l G y d Φ Ψ k n pc L (.float x :: st) h := by
  subst hp
  refine k_pure ?_ kk
  intro p e R s m args below meth c H locs cells slots Q ls hx hb hl kk
  exact lv_fstore_n hx hb hd rfl hl hn rfl (fun ls' h6 => kk ls' (kset1_has h6))
theorem k_fstore {i : Nat} {x : UInt32} (hd : decode y.2.1 pc = .ok (.fstore i, 2)) (hp : pc + 2 = pc1) (hn : i < y.2.2.1) (kk : kW l G y d Φ Ψ k n pc1 (kset1 L i (.float x)) st h) : kW l G y d Φ Ψ k n pc L (.float x :: st) h := by
  subst hp
  refine k_pure ?_ kk
  intro p e R s m args below meth c H locs cells slots Q ls hx hb hl kk
  exact lv_fstore hx hb hd hl hn rfl (fun ls' h6 => kk ls' (kset1_has h6))
theorem k_dstore_n {i : Fin 4} {x : UInt64} (hd : decode y.2.1 pc = .ok (.dstore_n i, 1)) (hp : pc + 1 = pc1) (hn : (i : Nat) + 1 < y.2.2.1) (kk : kW l G y d Φ Ψ k n pc1 (kset2 L i (.double x)) st h) : kW l G y d Φ Ψ k n pc L (.double x :: st) h := by
  subst hp
  refine k_pure ?_ kk
  intro p e R s m args below meth c H locs cells slots Q ls hx hb hl kk
  exact lv_dstore_n hx hb hd rfl hl hn rfl (fun ls' h6 => kk ls' (kset2_has h6))
theorem k_dstore {i : Nat} {x : UInt64} (hd : decode y.2.1 pc = .ok (.dstore i, 2)) (hp : pc + 2 = pc1) (hn : i + 1 < y.2.2.1) (kk : kW l G y d Φ Ψ k n pc1 (kset2 L i (.double x)) st h) : kW l G y d Φ Ψ k n pc L (.double x :: st) h := by
  subst hp
  refine k_pure ?_ kk
  intro p e R s m args below meth c H locs cells slots Q ls hx hb hl kk
  exact lv_dstore hx hb hd hl hn rfl (fun ls' h6 => kk ls' (kset2_has h6))
theorem k_astore_n {i : Fin 4} {x : Nat} (hd : decode y.2.1 pc = .ok (.astore_n i, 1)) (hp : pc + 1 = pc1) (hn : (i : Nat) < y.2.2.1) (kk : kW l G y d Φ Ψ k n pc1 (kset1 L i (.ref x)) st h) : kW l G y d Φ Ψ k n pc L (.ref x :: st) h := by
  subst hp
  refine k_pure ?_ kk
  intro p e R s m args below meth c H locs cells slots Q ls hx hb hl kk
  exact lv_astore_n hx hb hd rfl hl hn rfl (fun ls' h6 => kk ls' (kset1_has h6))
theorem k_astore {i : Nat} {x : Nat} (hd : decode y.2.1 pc = .ok (.astore i, 2)) (hp : pc + 2 = pc1) (hn : i < y.2.2.1) (kk : kW l G y d Φ Ψ k n pc1 (kset1 L i (.ref x)) st h) : kW l G y d Φ Ψ k n pc L (.ref x :: st) h := by
  subst hp
  refine k_pure ?_ kk
  intro p e R s m args below meth c H locs cells slots Q ls hx hb hl kk
  exact lv_astore hx hb hd hl hn rfl (fun ls' h6 => kk ls' (kset1_has h6))
theorem k_astore_nN {i : Fin 4} (hd : decode y.2.1 pc = .ok (.astore_n i, 1)) (hp : pc + 1 = pc1) (hn : (i : Nat) < y.2.2.1) (kk : kW l G y d Φ Ψ k n pc1 (kset1 L i (.null)) st h) : kW l G y d Φ Ψ k n pc L (.null :: st) h := by
  subst hp
  refine k_pure ?_ kk
  intro p e R s m args below meth c H locs cells slots Q ls hx hb hl kk
  exact lv_astore_nN hx hb hd rfl hl hn rfl (fun ls' h6 => kk ls' (kset1_has h6))
theorem k_astoreN {i : Nat} (hd : decode y.2.1 pc = .ok (.astore i, 2)) (hp : pc + 2 = pc1) (hn : i < y.2.2.1) (kk : kW l G y d Φ Ψ k n pc1 (kset1 L i (.null)) st h) : kW l G y d Φ Ψ k n pc L (.null :: st) h := by
  subst hp
  refine k_pure ?_ kk
  intro p e R s m args below meth c H locs cells slots Q ls hx hb hl kk
  exact lv_astoreN hx hb hd hl hn rfl (fun ls' h6 => kk ls' (kset1_has h6))
theorem k_iinc {i : Nat} {z a : Int} (hd : decode y.2.1 pc = .ok (.iinc i z, 3)) (hp : pc + 3 = pc1) (hL : L[i]? = some (some (.int (iI a)))) (hn : i < y.2.2.1) (kk : kW l G y d Φ Ψ k n pc1 (kset1 L i (.int (iI (a + z)))) st h) : kW l G y d Φ Ψ k n pc L st h := by
  subst hp
  refine k_pure ?_ kk
  intro p e R s m args below meth c H locs cells slots Q ls hx hb hl kk
  obtain ⟨j, hj⟩ := List.getElem?_of_mem ((kpr_mem L 0 i (.int (iI a))).mpr ⟨Nat.zero_le _, hL⟩)
  exact lv_iinc hx hb hd hl hj (iI_add a z) hn rfl (fun ls' h6 => kk ls' (kset1_has h6))
theorem k_iadd {a b : Int} (hd : decode y.2.1 pc = .ok (.iadd, 1)) (hp : pc + 1 = pc1)  (kk : kW l G y d Φ Ψ k n pc1 L (.int (iI (a + b)) :: st) h) : kW l G y d Φ Ψ k n pc L (.int (iI b) :: .int (iI a) :: st) h := by
  subst hp
  refine k_pure ?_ kk
  intro p e R s m args below meth c H locs cells slots Q ls hx hb hl kk
  exact lv_iadd hx hb hd (by rw [iI_add]; exact kk ls hl)
theorem k_isub {a b : Int} (hd : decode y.2.1 pc = .ok (.isub, 1)) (hp : pc + 1 = pc1)  (kk : kW l G y d Φ Ψ k n pc1 L (.int (iI (a - b)) :: st) h) : kW l G y d Φ Ψ k n pc L (.int (iI b) :: .int (iI a) :: st) h := by
  subst hp
  refine k_pure ?_ kk
  intro p e R s m args below meth c H locs cells slots Q ls hx hb hl kk
  exact lv_isub hx hb hd (by rw [iI_sub]; exact kk ls hl)
theorem k_imul {a b : Int} (hd : decode y.2.1 pc = .ok (.imul, 1)) (hp : pc + 1 = pc1)  (kk : kW l G y d Φ Ψ k n pc1 L (.int (iI (a * b)) :: st) h) : kW l G y d Φ Ψ k n pc L (.int (iI b) :: .int (iI a) :: st) h := by
  subst hp
  refine k_pure ?_ kk
  intro p e R s m args below meth c H locs cells slots Q ls hx hb hl kk
  exact lv_imul hx hb hd (by rw [iI_mul]; exact kk ls hl)
theorem k_ineg {a : Int} (hd : decode y.2.1 pc = .ok (.ineg, 1)) (hp : pc + 1 = pc1)  (kk : kW l G y d Φ Ψ k n pc1 L (.int (iI (-a)) :: st) h) : kW l G y d Φ Ψ k n pc L (.int (iI a) :: st) h := by
  subst hp
  refine k_pure ?_ kk
  intro p e R s m args below meth c H locs cells slots Q ls hx hb hl kk
  exact lv_ineg hx hb hd (by rw [iI_neg]; exact kk ls hl)
theorem k_iand {a b : Int32} (hd : decode y.2.1 pc = .ok (.iand, 1)) (hp : pc + 1 = pc1)  (kk : kW l G y d Φ Ψ k n pc1 L (.int (a &&& b) :: st) h) : kW l G y d Φ Ψ k n pc L (.int b :: .int a :: st) h := by
  subst hp
  refine k_pure ?_ kk
  intro p e R s m args below meth c H locs cells slots Q ls hx hb hl kk
  exact lv_iand hx hb hd (kk ls hl)
theorem k_ior {a b : Int32} (hd : decode y.2.1 pc = .ok (.ior, 1)) (hp : pc + 1 = pc1)  (kk : kW l G y d Φ Ψ k n pc1 L (.int (a ||| b) :: st) h) : kW l G y d Φ Ψ k n pc L (.int b :: .int a :: st) h := by
  subst hp
  refine k_pure ?_ kk
  intro p e R s m args below meth c H locs cells slots Q ls hx hb hl kk
  exact lv_ior hx hb hd (kk ls hl)
theorem k_ixor {a b : Int32} (hd : decode y.2.1 pc = .ok (.ixor, 1)) (hp : pc + 1 = pc1)  (kk : kW l G y d Φ Ψ k n pc1 L (.int (a ^^^ b) :: st) h) : kW l G y d Φ Ψ k n pc L (.int b :: .int a :: st) h := by
  subst hp
  refine k_pure ?_ kk
  intro p e R s m args below meth c H locs cells slots Q ls hx hb hl kk
  exact lv_ixor hx hb hd (kk ls hl)
theorem k_ishl {a b : Int32} (hd : decode y.2.1 pc = .ok (.ishl, 1)) (hp : pc + 1 = pc1)  (kk : kW l G y d Φ Ψ k n pc1 L (.int (a <<< (b &&& 31)) :: st) h) : kW l G y d Φ Ψ k n pc L (.int b :: .int a :: st) h := by
  subst hp
  refine k_pure ?_ kk
  intro p e R s m args below meth c H locs cells slots Q ls hx hb hl kk
  exact lv_ishl hx hb hd (kk ls hl)
theorem k_ishr {a b : Int32} (hd : decode y.2.1 pc = .ok (.ishr, 1)) (hp : pc + 1 = pc1)  (kk : kW l G y d Φ Ψ k n pc1 L (.int (a >>> (b &&& 31)) :: st) h) : kW l G y d Φ Ψ k n pc L (.int b :: .int a :: st) h := by
  subst hp
  refine k_pure ?_ kk
  intro p e R s m args below meth c H locs cells slots Q ls hx hb hl kk
  exact lv_ishr hx hb hd (kk ls hl)
theorem k_iaddR {a b : Int32} (hd : decode y.2.1 pc = .ok (.iadd, 1)) (hp : pc + 1 = pc1)  (kk : kW l G y d Φ Ψ k n pc1 L (.int (a + b) :: st) h) : kW l G y d Φ Ψ k n pc L (.int b :: .int a :: st) h := by
  subst hp
  refine k_pure ?_ kk
  intro p e R s m args below meth c H locs cells slots Q ls hx hb hl kk
  exact lv_iadd hx hb hd (kk ls hl)
theorem k_isubR {a b : Int32} (hd : decode y.2.1 pc = .ok (.isub, 1)) (hp : pc + 1 = pc1)  (kk : kW l G y d Φ Ψ k n pc1 L (.int (a - b) :: st) h) : kW l G y d Φ Ψ k n pc L (.int b :: .int a :: st) h := by
  subst hp
  refine k_pure ?_ kk
  intro p e R s m args below meth c H locs cells slots Q ls hx hb hl kk
  exact lv_isub hx hb hd (kk ls hl)
theorem k_iushr {a b : Int32} (hd : decode y.2.1 pc = .ok (.iushr, 1)) (hp : pc + 1 = pc1)  (kk : kW l G y d Φ Ψ k n pc1 L (.int (a.toUInt32 >>> (b.toUInt32 &&& Int32.toUInt32 31)).toInt32 :: st) h) : kW l G y d Φ Ψ k n pc L (.int b :: .int a :: st) h := by
  subst hp
  refine k_pure ?_ kk
  intro p e R s m args below meth c H locs cells slots Q ls hx hb hl kk
  exact lv_iushr hx hb hd rfl (kk ls hl)
theorem k_i2l {a : Int32} (hd : decode y.2.1 pc = .ok (.i2l, 1)) (hp : pc + 1 = pc1)  (kk : kW l G y d Φ Ψ k n pc1 L (.long a.toInt64 :: st) h) : kW l G y d Φ Ψ k n pc L (.int a :: st) h := by
  subst hp
  refine k_pure ?_ kk
  intro p e R s m args below meth c H locs cells slots Q ls hx hb hl kk
  exact lv_i2l hx hb hd rfl (kk ls hl)
theorem k_i2c {a : Int32} (hd : decode y.2.1 pc = .ok (.i2c, 1)) (hp : pc + 1 = pc1)  (kk : kW l G y d Φ Ψ k n pc1 L (.int (a.toUInt32 % 65536).toInt32 :: st) h) : kW l G y d Φ Ψ k n pc L (.int a :: st) h := by
  subst hp
  refine k_pure ?_ kk
  intro p e R s m args below meth c H locs cells slots Q ls hx hb hl kk
  exact lv_i2c hx hb hd rfl (kk ls hl)
theorem k_i2d {a : Int32} (hd : decode y.2.1 pc = .ok (.i2d, 1)) (hp : pc + 1 = pc1)  (kk : kW l G y d Φ Ψ k n pc1 L (.double (FP.i2d a) :: st) h) : kW l G y d Φ Ψ k n pc L (.int a :: st) h := by
  subst hp
  refine k_pure ?_ kk
  intro p e R s m args below meth c H locs cells slots Q ls hx hb hl kk
  exact lv_i2d hx hb hd (kk ls hl)
theorem k_i2f {a : Int32} (hd : decode y.2.1 pc = .ok (.i2f, 1)) (hp : pc + 1 = pc1)  (kk : kW l G y d Φ Ψ k n pc1 L (.float (FP.i2f a) :: st) h) : kW l G y d Φ Ψ k n pc L (.int a :: st) h := by
  subst hp
  refine k_pure ?_ kk
  intro p e R s m args below meth c H locs cells slots Q ls hx hb hl kk
  exact lv_i2f hx hb hd (kk ls hl)
theorem k_ladd {a b : Int64} (hd : decode y.2.1 pc = .ok (.ladd, 1)) (hp : pc + 1 = pc1)  (kk : kW l G y d Φ Ψ k n pc1 L (.long (a + b) :: st) h) : kW l G y d Φ Ψ k n pc L (.long b :: .long a :: st) h := by
  subst hp
  refine k_pure ?_ kk
  intro p e R s m args below meth c H locs cells slots Q ls hx hb hl kk
  exact lv_ladd hx hb hd (kk ls hl)
theorem k_lmul {a b : Int64} (hd : decode y.2.1 pc = .ok (.lmul, 1)) (hp : pc + 1 = pc1)  (kk : kW l G y d Φ Ψ k n pc1 L (.long (a * b) :: st) h) : kW l G y d Φ Ψ k n pc L (.long b :: .long a :: st) h := by
  subst hp
  refine k_pure ?_ kk
  intro p e R s m args below meth c H locs cells slots Q ls hx hb hl kk
  exact lv_lmul hx hb hd (kk ls hl)
theorem k_ddiv {a b : UInt64} (hd : decode y.2.1 pc = .ok (.ddiv, 1)) (hp : pc + 1 = pc1) (hne : vf_n64 (FP.ddiv a b)) (kk : kW l G y d Φ Ψ k n pc1 L (.double (FP.ddiv a b) :: st) h) : kW l G y d Φ Ψ k n pc L (.double b :: .double a :: st) h := by
  subst hp
  refine k_pure ?_ kk
  intro p e R s m args below meth c H locs cells slots Q ls hx hb hl kk
  exact lv_ddiv hx hb hd hne (kk ls hl)
theorem k_fdiv {a b : UInt32} (hd : decode y.2.1 pc = .ok (.fdiv, 1)) (hp : pc + 1 = pc1) (hne : vf_n32 (FP.fdiv a b)) (kk : kW l G y d Φ Ψ k n pc1 L (.float (FP.fdiv a b) :: st) h) : kW l G y d Φ Ψ k n pc L (.float b :: .float a :: st) h := by
  subst hp
  refine k_pure ?_ kk
  intro p e R s m args below meth c H locs cells slots Q ls hx hb hl kk
  exact lv_fdiv hx hb hd hne (kk ls hl)
theorem k_f2d {a : UInt32} (hd : decode y.2.1 pc = .ok (.f2d, 1)) (hp : pc + 1 = pc1) (hne : vf_n64 (FP.f2d a)) (kk : kW l G y d Φ Ψ k n pc1 L (.double (FP.f2d a) :: st) h) : kW l G y d Φ Ψ k n pc L (.float a :: st) h := by
  subst hp
  refine k_pure ?_ kk
  intro p e R s m args below meth c H locs cells slots Q ls hx hb hl kk
  exact lv_f2d hx hb hd hne (kk ls hl)
theorem k_dcmp {a b : UInt64} {op : CmpOp} (hd : decode y.2.1 pc = .ok (.dcmp op, 1)) (hp : pc + 1 = pc1)  (kk : kW l G y d Φ Ψ k n pc1 L (.int (Op.cmpValue (FP.dcmp a b) op) :: st) h) : kW l G y d Φ Ψ k n pc L (.double b :: .double a :: st) h := by
  subst hp
  refine k_pure ?_ kk
  intro p e R s m args below meth c H locs cells slots Q ls hx hb hl kk
  exact lv_dcmp hx hb hd (kk ls hl)
theorem k_fcmp {a b : UInt32} {op : CmpOp} (hd : decode y.2.1 pc = .ok (.fcmp op, 1)) (hp : pc + 1 = pc1)  (kk : kW l G y d Φ Ψ k n pc1 L (.int (Op.cmpValue (FP.fcmp a b) op) :: st) h) : kW l G y d Φ Ψ k n pc L (.float b :: .float a :: st) h := by
  subst hp
  refine k_pure ?_ kk
  intro p e R s m args below meth c H locs cells slots Q ls hx hb hl kk
  exact lv_fcmp hx hb hd (kk ls hl)
theorem k_dup {v : Value} (hd : decode y.2.1 pc = .ok (.dup, 1)) (hp : pc + 1 = pc1) (hv : v.category = 1) (kk : kW l G y d Φ Ψ k n pc1 L (v :: v :: st) h) : kW l G y d Φ Ψ k n pc L (v :: st) h := by
  subst hp
  refine k_pure ?_ kk
  intro p e R s m args below meth c H locs cells slots Q ls hx hb hl kk
  exact lv_dup hx hb hd hv (kk ls hl)
theorem k_pop {v : Value} (hd : decode y.2.1 pc = .ok (.pop, 1)) (hp : pc + 1 = pc1) (hv : v.category = 1) (kk : kW l G y d Φ Ψ k n pc1 L (st) h) : kW l G y d Φ Ψ k n pc L (v :: st) h := by
  subst hp
  refine k_pure ?_ kk
  intro p e R s m args below meth c H locs cells slots Q ls hx hb hl kk
  exact lv_pop hx hb hd hv (kk ls hl)
theorem k_dup_x1 {v u : Value} (hd : decode y.2.1 pc = .ok (.dup_x1, 1)) (hp : pc + 1 = pc1) (hv : v.category = 1) (hu : u.category = 1) (kk : kW l G y d Φ Ψ k n pc1 L (v :: u :: v :: st) h) : kW l G y d Φ Ψ k n pc L (v :: u :: st) h := by
  subst hp
  refine k_pure ?_ kk
  intro p e R s m args below meth c H locs cells slots Q ls hx hb hl kk
  exact lv_dup_x1 hx hb hd hv hu (kk ls hl)
theorem k_dup2 {v u : Value} (hd : decode y.2.1 pc = .ok (.dup2, 1)) (hp : pc + 1 = pc1) (hv : v.category = 1) (hu : u.category = 1) (kk : kW l G y d Φ Ψ k n pc1 L (v :: u :: v :: u :: st) h) : kW l G y d Φ Ψ k n pc L (v :: u :: st) h := by
  subst hp
  refine k_pure ?_ kk
  intro p e R s m args below meth c H locs cells slots Q ls hx hb hl kk
  exact lv_dup2_11 hx hb hd hv hu (kk ls hl)
theorem k_val {v v' : Value} (e : v = v') (kk : kW l G y d Φ Ψ k n pc L (v' :: st) h) : kW l G y d Φ Ψ k n pc L (v :: st) h := by
  subst e; exact kk
theorem k_st {st' : List Value} (e : st = st') (kk : kW l G y d Φ Ψ k n pc L st' h) : kW l G y d Φ Ψ k n pc L st h := by
  subst e; exact kk
theorem k_loc {L' : List (Option Value)} (e : L = L') (kk : kW l G y d Φ Ψ k n pc L' st h) : kW l G y d Φ Ψ k n pc L st h := by
  subst e; exact kk
theorem k_hp {h' : kAH} (e : h = h') (kk : kW l G y d Φ Ψ k n pc L st h') : kW l G y d Φ Ψ k n pc L st h := by
  subst e; exact kk
theorem k_post {Φ' : Option Value → kAH → Prop} {Ψ' : String → kAH → Prop} (h1 : ∀ v h', Φ' v h' → Φ v h') (h2 : ∀ E h', Ψ' E h' → Ψ E h') {mc ms : Nat} {as : List Value} (kk : kC l G y d mc ms as h Φ' Ψ') : kC l G y d mc ms as h Φ Ψ := by
  intro p e ha hc hk s m args below hf happ hP hT
  obtain ⟨n9, o, g1, g2, g3, g4⟩ := kk p e ha hc hk s m args below hf happ hP hT
  refine ⟨n9, o, g1, g2, g3, ?_⟩
  rcases g4 with ⟨⟨⟨v, h', e1, e2, e3⟩, e4⟩, g5⟩ | ⟨q, e0, E, ce, LL, ⟨⟨h', e1, e2⟩, e3⟩, g5⟩
  · exact Or.inl ⟨⟨⟨v, h', e1, h1 v h' e2, e3⟩, e4⟩, g5⟩
  · exact Or.inr ⟨q, e0, E, ce, LL, ⟨⟨h', h2 E h' e1, e2⟩, e3⟩, g5⟩
theorem k_if_eq {a off : Int} {tgt : Nat} (hd : decode y.2.1 pc = .ok (.ifCond .eq off, 3)) (hp : pc + 3 = pc1) (ht : (pc : Int) + off = (tgt : Int)) (ha : -2147483648 ≤ a ∧ a < 2147483648)
    (kt : a = 0 → kW l G y d Φ Ψ k n tgt L st h) (kf : ¬ a = 0 → kW l G y d Φ Ψ k n pc1 L st h) : kW l G y d Φ Ψ k n pc L (.int (iI a) :: st) h := by
  subst hp
  intro p e R s m args below meth c H locs cells slots ls F h1 h2 h3 h4 h5
  refine lv_if_eq F.1 F.2.1 hd ht (fun q => kt ((iI_eq ha (⟨by omega, by omega⟩ : (-2147483648 : Int) ≤ 0 ∧ (0 : Int) < 2147483648)).mp q) p e R s m args below meth c H locs cells slots ls F h1 h2 h3 h4 h5) (fun q => kf (fun z => q ((iI_eq ha (⟨by omega, by omega⟩ : (-2147483648 : Int) ≤ 0 ∧ (0 : Int) < 2147483648)).mpr z)) p e R s m args below meth c H locs cells slots ls F h1 h2 h3 h4 h5)
theorem k_if_lt {a off : Int} {tgt : Nat} (hd : decode y.2.1 pc = .ok (.ifCond .lt off, 3)) (hp : pc + 3 = pc1) (ht : (pc : Int) + off = (tgt : Int)) (ha : -2147483648 ≤ a ∧ a < 2147483648)
    (kt : a < 0 → kW l G y d Φ Ψ k n tgt L st h) (kf : ¬ a < 0 → kW l G y d Φ Ψ k n pc1 L st h) : kW l G y d Φ Ψ k n pc L (.int (iI a) :: st) h := by
  subst hp
  intro p e R s m args below meth c H locs cells slots ls F h1 h2 h3 h4 h5
  refine lv_if_lt F.1 F.2.1 hd ht (fun q => kt ((iI_lt ha (⟨by omega, by omega⟩ : (-2147483648 : Int) ≤ 0 ∧ (0 : Int) < 2147483648)).mp q) p e R s m args below meth c H locs cells slots ls F h1 h2 h3 h4 h5) (fun q => kf (fun z => q ((iI_lt ha (⟨by omega, by omega⟩ : (-2147483648 : Int) ≤ 0 ∧ (0 : Int) < 2147483648)).mpr z)) p e R s m args below meth c H locs cells slots ls F h1 h2 h3 h4 h5)
theorem k_if_le {a off : Int} {tgt : Nat} (hd : decode y.2.1 pc = .ok (.ifCond .le off, 3)) (hp : pc + 3 = pc1) (ht : (pc : Int) + off = (tgt : Int)) (ha : -2147483648 ≤ a ∧ a < 2147483648)
    (kt : a ≤ 0 → kW l G y d Φ Ψ k n tgt L st h) (kf : ¬ a ≤ 0 → kW l G y d Φ Ψ k n pc1 L st h) : kW l G y d Φ Ψ k n pc L (.int (iI a) :: st) h := by
  subst hp
  intro p e R s m args below meth c H locs cells slots ls F h1 h2 h3 h4 h5
  refine lv_if_le F.1 F.2.1 hd ht (fun q => kt ((iI_le ha (⟨by omega, by omega⟩ : (-2147483648 : Int) ≤ 0 ∧ (0 : Int) < 2147483648)).mp q) p e R s m args below meth c H locs cells slots ls F h1 h2 h3 h4 h5) (fun q => kf (fun z => q ((iI_le ha (⟨by omega, by omega⟩ : (-2147483648 : Int) ≤ 0 ∧ (0 : Int) < 2147483648)).mpr z)) p e R s m args below meth c H locs cells slots ls F h1 h2 h3 h4 h5)
theorem k_if_ne {a off : Int} {tgt : Nat} (hd : decode y.2.1 pc = .ok (.ifCond .ne off, 3)) (hp : pc + 3 = pc1) (ht : (pc : Int) + off = (tgt : Int)) (ha : -2147483648 ≤ a ∧ a < 2147483648)
    (kt : ¬ a = 0 → kW l G y d Φ Ψ k n tgt L st h) (kf : a = 0 → kW l G y d Φ Ψ k n pc1 L st h) : kW l G y d Φ Ψ k n pc L (.int (iI a) :: st) h := by
  subst hp
  intro p e R s m args below meth c H locs cells slots ls F h1 h2 h3 h4 h5
  exact lv_if_ne F.1 F.2.1 hd ht (fun q => kt (fun z => q ((iI_eq ha (⟨by omega, by omega⟩ : (-2147483648 : Int) ≤ 0 ∧ (0 : Int) < 2147483648)).mpr z)) p e R s m args below meth c H locs cells slots ls F h1 h2 h3 h4 h5) (fun q => kf ((iI_eq ha (⟨by omega, by omega⟩ : (-2147483648 : Int) ≤ 0 ∧ (0 : Int) < 2147483648)).mp (by first | exact q | exact Classical.not_not.mp q)) p e R s m args below meth c H locs cells slots ls F h1 h2 h3 h4 h5)
theorem k_if_ge {a off : Int} {tgt : Nat} (hd : decode y.2.1 pc = .ok (.ifCond .ge off, 3)) (hp : pc + 3 = pc1) (ht : (pc : Int) + off = (tgt : Int)) (ha : -2147483648 ≤ a ∧ a < 2147483648)
    (kt : 0 ≤ a → kW l G y d Φ Ψ k n tgt L st h) (kf : a < 0 → kW l G y d Φ Ψ k n pc1 L st h) : kW l G y d Φ Ψ k n pc L (.int (iI a) :: st) h := by
  subst hp
  intro p e R s m args below meth c H locs cells slots ls F h1 h2 h3 h4 h5
  have q1 := iI_le (⟨by omega, by omega⟩ : (-2147483648 : Int) ≤ 0 ∧ (0 : Int) < 2147483648) ha
  have q2 := iI_lt ha (⟨by omega, by omega⟩ : (-2147483648 : Int) ≤ 0 ∧ (0 : Int) < 2147483648)
  refine lv_if_ge F.1 F.2.1 hd ht (fun q => kt (by first | exact q1.mp q | exact Int.not_lt.mp (fun z => q (q2.mpr z)) | exact Int.not_le.mp (fun z => q (q2.mpr z))) p e R s m args below meth c H locs cells slots ls F h1 h2 h3 h4 h5) (fun q => kf (by first | exact q2.mp q | exact Int.not_le.mp (fun z => q (q1.mpr z)) | exact Int.not_lt.mp (fun z => q (q1.mpr z)) | exact q2.mp (by first | exact Int32.not_le.mp q | exact Int32.not_lt.mp q)) p e R s m args below meth c H locs cells slots ls F h1 h2 h3 h4 h5)
theorem k_if_gt {a off : Int} {tgt : Nat} (hd : decode y.2.1 pc = .ok (.ifCond .gt off, 3)) (hp : pc + 3 = pc1) (ht : (pc : Int) + off = (tgt : Int)) (ha : -2147483648 ≤ a ∧ a < 2147483648)
    (kt : 0 < a → kW l G y d Φ Ψ k n tgt L st h) (kf : a ≤ 0 → kW l G y d Φ Ψ k n pc1 L st h) : kW l G y d Φ Ψ k n pc L (.int (iI a) :: st) h := by
  subst hp
  intro p e R s m args below meth c H locs cells slots ls F h1 h2 h3 h4 h5
  have q1 := iI_lt (⟨by omega, by omega⟩ : (-2147483648 : Int) ≤ 0 ∧ (0 : Int) < 2147483648) ha
  have q2 := iI_le ha (⟨by omega, by omega⟩ : (-2147483648 : Int) ≤ 0 ∧ (0 : Int) < 2147483648)
  refine lv_if_gt F.1 F.2.1 hd ht (fun q => kt (by first | exact q1.mp q | exact Int.not_lt.mp (fun z => q (q2.mpr z)) | exact Int.not_le.mp (fun z => q (q2.mpr z))) p e R s m args below meth c H locs cells slots ls F h1 h2 h3 h4 h5) (fun q => kf (by first | exact q2.mp q | exact Int.not_le.mp (fun z => q (q1.mpr z)) | exact Int.not_lt.mp (fun z => q (q1.mpr z)) | exact q2.mp (by first | exact Int32.not_le.mp q | exact Int32.not_lt.mp q)) p e R s m args below meth c H locs cells slots ls F h1 h2 h3 h4 h5)
theorem k_icmp_eq {a b off : Int} {tgt : Nat} (hd : decode y.2.1 pc = .ok (.if_icmp .eq off, 3)) (hp : pc + 3 = pc1) (ht : (pc : Int) + off = (tgt : Int)) (ha : -2147483648 ≤ a ∧ a < 2147483648) (hb : -2147483648 ≤ b ∧ b < 2147483648)
    (kt : a = b → kW l G y d Φ Ψ k n tgt L st h) (kf : ¬ a = b → kW l G y d Φ Ψ k n pc1 L st h) : kW l G y d Φ Ψ k n pc L (.int (iI b) :: .int (iI a) :: st) h := by
  subst hp
  intro p e R s m args below meth c H locs cells slots ls F h1 h2 h3 h4 h5
  have e1 := iI_eq ha hb
  have e2 := iI_lt ha hb
  have e3 := iI_le ha hb
  have e4 := iI_lt hb ha
  have e5 := iI_le hb ha
  refine lv_icmp_eq F.1 F.2.1 hd ht (fun q => kt ?_ p e R s m args below meth c H locs cells slots ls F h1 h2 h3 h4 h5) (fun q => kf ?_ p e R s m args below meth c H locs cells slots ls F h1 h2 h3 h4 h5)
  · first | exact e1.mp q | exact e2.mp q | exact e3.mp q | exact e4.mp q | exact e5.mp q | exact fun z => q (e1.mpr z)
  · first | exact fun z => q (e1.mpr z) | exact e1.mp q | exact e1.mp (Classical.not_not.mp q) | exact e2.mp q | exact e3.mp q | exact e4.mp q | exact e5.mp q | exact Int.not_lt.mp (fun z => q (e2.mpr z)) | exact Int.not_le.mp (fun z => q (e3.mpr z)) | exact Int.not_lt.mp (fun z => q (e4.mpr z)) | exact Int.not_le.mp (fun z => q (e5.mpr z))
theorem k_icmp_ne {a b off : Int} {tgt : Nat} (hd : decode y.2.1 pc = .ok (.if_icmp .ne off, 3)) (hp : pc + 3 = pc1) (ht : (pc : Int) + off = (tgt : Int)) (ha : -2147483648 ≤ a ∧ a < 2147483648) (hb : -2147483648 ≤ b ∧ b < 2147483648)
    (kt : ¬ a = b → kW l G y d Φ Ψ k n tgt L st h) (kf : a = b → kW l G y d Φ Ψ k n pc1 L st h) : kW l G y d Φ Ψ k n pc L (.int (iI b) :: .int (iI a) :: st) h := by
  subst hp
  intro p e R s m args below meth c H locs cells slots ls F h1 h2 h3 h4 h5
  have e1 := iI_eq ha hb
  have e2 := iI_lt ha hb
  have e3 := iI_le ha hb
  have e4 := iI_lt hb ha
  have e5 := iI_le hb ha
  refine lv_icmp_ne F.1 F.2.1 hd ht (fun q => kt ?_ p e R s m args below meth c H locs cells slots ls F h1 h2 h3 h4 h5) (fun q => kf ?_ p e R s m args below meth c H locs cells slots ls F h1 h2 h3 h4 h5)
  · first | exact e1.mp q | exact e2.mp q | exact e3.mp q | exact e4.mp q | exact e5.mp q | exact fun z => q (e1.mpr z)
  · first | exact fun z => q (e1.mpr z) | exact e1.mp q | exact e1.mp (Classical.not_not.mp q) | exact e2.mp q | exact e3.mp q | exact e4.mp q | exact e5.mp q | exact Int.not_lt.mp (fun z => q (e2.mpr z)) | exact Int.not_le.mp (fun z => q (e3.mpr z)) | exact Int.not_lt.mp (fun z => q (e4.mpr z)) | exact Int.not_le.mp (fun z => q (e5.mpr z))
theorem k_icmp_lt {a b off : Int} {tgt : Nat} (hd : decode y.2.1 pc = .ok (.if_icmp .lt off, 3)) (hp : pc + 3 = pc1) (ht : (pc : Int) + off = (tgt : Int)) (ha : -2147483648 ≤ a ∧ a < 2147483648) (hb : -2147483648 ≤ b ∧ b < 2147483648)
    (kt : a < b → kW l G y d Φ Ψ k n tgt L st h) (kf : b ≤ a → kW l G y d Φ Ψ k n pc1 L st h) : kW l G y d Φ Ψ k n pc L (.int (iI b) :: .int (iI a) :: st) h := by
  subst hp
  intro p e R s m args below meth c H locs cells slots ls F h1 h2 h3 h4 h5
  have e1 := iI_eq ha hb
  have e2 := iI_lt ha hb
  have e3 := iI_le ha hb
  have e4 := iI_lt hb ha
  have e5 := iI_le hb ha
  refine lv_icmp_lt F.1 F.2.1 hd ht (fun q => kt ?_ p e R s m args below meth c H locs cells slots ls F h1 h2 h3 h4 h5) (fun q => kf ?_ p e R s m args below meth c H locs cells slots ls F h1 h2 h3 h4 h5)
  · first | exact e1.mp q | exact e2.mp q | exact e3.mp q | exact e4.mp q | exact e5.mp q | exact fun z => q (e1.mpr z)
  · first | exact fun z => q (e1.mpr z) | exact e1.mp q | exact e1.mp (Classical.not_not.mp q) | exact e2.mp q | exact e3.mp q | exact e4.mp q | exact e5.mp q | exact Int.not_lt.mp (fun z => q (e2.mpr z)) | exact Int.not_le.mp (fun z => q (e3.mpr z)) | exact Int.not_lt.mp (fun z => q (e4.mpr z)) | exact Int.not_le.mp (fun z => q (e5.mpr z))
theorem k_icmp_ge {a b off : Int} {tgt : Nat} (hd : decode y.2.1 pc = .ok (.if_icmp .ge off, 3)) (hp : pc + 3 = pc1) (ht : (pc : Int) + off = (tgt : Int)) (ha : -2147483648 ≤ a ∧ a < 2147483648) (hb : -2147483648 ≤ b ∧ b < 2147483648)
    (kt : b ≤ a → kW l G y d Φ Ψ k n tgt L st h) (kf : a < b → kW l G y d Φ Ψ k n pc1 L st h) : kW l G y d Φ Ψ k n pc L (.int (iI b) :: .int (iI a) :: st) h := by
  subst hp
  intro p e R s m args below meth c H locs cells slots ls F h1 h2 h3 h4 h5
  have e1 := iI_eq ha hb
  have e2 := iI_lt ha hb
  have e3 := iI_le ha hb
  have e4 := iI_lt hb ha
  have e5 := iI_le hb ha
  refine lv_icmp_ge F.1 F.2.1 hd ht (fun q => kt ?_ p e R s m args below meth c H locs cells slots ls F h1 h2 h3 h4 h5) (fun q => kf ?_ p e R s m args below meth c H locs cells slots ls F h1 h2 h3 h4 h5)
  · first | exact e1.mp q | exact e2.mp q | exact e3.mp q | exact e4.mp q | exact e5.mp q | exact fun z => q (e1.mpr z)
  · first | exact fun z => q (e1.mpr z) | exact e1.mp q | exact e1.mp (Classical.not_not.mp q) | exact e2.mp q | exact e3.mp q | exact e4.mp q | exact e5.mp q | exact Int.not_lt.mp (fun z => q (e2.mpr z)) | exact Int.not_le.mp (fun z => q (e3.mpr z)) | exact Int.not_lt.mp (fun z => q (e4.mpr z)) | exact Int.not_le.mp (fun z => q (e5.mpr z))
theorem k_icmp_gt {a b off : Int} {tgt : Nat} (hd : decode y.2.1 pc = .ok (.if_icmp .gt off, 3)) (hp : pc + 3 = pc1) (ht : (pc : Int) + off = (tgt : Int)) (ha : -2147483648 ≤ a ∧ a < 2147483648) (hb : -2147483648 ≤ b ∧ b < 2147483648)
    (kt : b < a → kW l G y d Φ Ψ k n tgt L st h) (kf : a ≤ b → kW l G y d Φ Ψ k n pc1 L st h) : kW l G y d Φ Ψ k n pc L (.int (iI b) :: .int (iI a) :: st) h := by
  subst hp
  intro p e R s m args below meth c H locs cells slots ls F h1 h2 h3 h4 h5
  have e1 := iI_eq ha hb
  have e2 := iI_lt ha hb
  have e3 := iI_le ha hb
  have e4 := iI_lt hb ha
  have e5 := iI_le hb ha
  refine lv_icmp_gt F.1 F.2.1 hd ht (fun q => kt ?_ p e R s m args below meth c H locs cells slots ls F h1 h2 h3 h4 h5) (fun q => kf ?_ p e R s m args below meth c H locs cells slots ls F h1 h2 h3 h4 h5)
  · first | exact e1.mp q | exact e2.mp q | exact e3.mp q | exact e4.mp q | exact e5.mp q | exact fun z => q (e1.mpr z)
  · first | exact fun z => q (e1.mpr z) | exact e1.mp q | exact e1.mp (Classical.not_not.mp q) | exact e2.mp q | exact e3.mp q | exact e4.mp q | exact e5.mp q | exact Int.not_lt.mp (fun z => q (e2.mpr z)) | exact Int.not_le.mp (fun z => q (e3.mpr z)) | exact Int.not_lt.mp (fun z => q (e4.mpr z)) | exact Int.not_le.mp (fun z => q (e5.mpr z))
theorem k_icmp_le {a b off : Int} {tgt : Nat} (hd : decode y.2.1 pc = .ok (.if_icmp .le off, 3)) (hp : pc + 3 = pc1) (ht : (pc : Int) + off = (tgt : Int)) (ha : -2147483648 ≤ a ∧ a < 2147483648) (hb : -2147483648 ≤ b ∧ b < 2147483648)
    (kt : a ≤ b → kW l G y d Φ Ψ k n tgt L st h) (kf : b < a → kW l G y d Φ Ψ k n pc1 L st h) : kW l G y d Φ Ψ k n pc L (.int (iI b) :: .int (iI a) :: st) h := by
  subst hp
  intro p e R s m args below meth c H locs cells slots ls F h1 h2 h3 h4 h5
  have e1 := iI_eq ha hb
  have e2 := iI_lt ha hb
  have e3 := iI_le ha hb
  have e4 := iI_lt hb ha
  have e5 := iI_le hb ha
  refine lv_icmp_le F.1 F.2.1 hd ht (fun q => kt ?_ p e R s m args below meth c H locs cells slots ls F h1 h2 h3 h4 h5) (fun q => kf ?_ p e R s m args below meth c H locs cells slots ls F h1 h2 h3 h4 h5)
  · first | exact e1.mp q | exact e2.mp q | exact e3.mp q | exact e4.mp q | exact e5.mp q | exact fun z => q (e1.mpr z)
  · first | exact fun z => q (e1.mpr z) | exact e1.mp q | exact e1.mp (Classical.not_not.mp q) | exact e2.mp q | exact e3.mp q | exact e4.mp q | exact e5.mp q | exact Int.not_lt.mp (fun z => q (e2.mpr z)) | exact Int.not_le.mp (fun z => q (e3.mpr z)) | exact Int.not_lt.mp (fun z => q (e4.mpr z)) | exact Int.not_le.mp (fun z => q (e5.mpr z))
theorem k_if_eqR {a : Int32} {off : Int} {tgt : Nat} (hd : decode y.2.1 pc = .ok (.ifCond .eq off, 3)) (hp : pc + 3 = pc1) (ht : (pc : Int) + off = (tgt : Int))
    (kt : a = 0 → kW l G y d Φ Ψ k n tgt L st h) (kf : ¬ a = 0 → kW l G y d Φ Ψ k n pc1 L st h) : kW l G y d Φ Ψ k n pc L (.int a :: st) h := by
  subst hp
  intro p e R s m args below meth c H locs cells slots ls F h1 h2 h3 h4 h5
  exact lv_if_eq F.1 F.2.1 hd ht (fun q => kt q p e R s m args below meth c H locs cells slots ls F h1 h2 h3 h4 h5) (fun q => kf (by first | exact q | exact Classical.not_not.mp q) p e R s m args below meth c H locs cells slots ls F h1 h2 h3 h4 h5)
theorem k_if_neR {a : Int32} {off : Int} {tgt : Nat} (hd : decode y.2.1 pc = .ok (.ifCond .ne off, 3)) (hp : pc + 3 = pc1) (ht : (pc : Int) + off = (tgt : Int))
    (kt : ¬ a = 0 → kW l G y d Φ Ψ k n tgt L st h) (kf : a = 0 → kW l G y d Φ Ψ k n pc1 L st h) : kW l G y d Φ Ψ k n pc L (.int a :: st) h := by
  subst hp
  intro p e R s m args below meth c H locs cells slots ls F h1 h2 h3 h4 h5
  exact lv_if_ne F.1 F.2.1 hd ht (fun q => kt q p e R s m args below meth c H locs cells slots ls F h1 h2 h3 h4 h5) (fun q => kf (by first | exact q | exact Classical.not_not.mp q) p e R s m args below meth c H locs cells slots ls F h1 h2 h3 h4 h5)
theorem k_goto {off : Int} {tgt : Nat} (hd : decode y.2.1 pc = .ok (.goto off, 3)) (ht : (pc : Int) + off = (tgt : Int)) (kk : kW l G y d Φ Ψ k n tgt L st h) : kW l G y d Φ Ψ k n pc L st h := by
  refine k_pure ?_ kk
  intro p e R s m args below meth c H locs cells slots Q ls hx hb hl kk
  exact lv_goto hx hb hd ht (kk ls hl)
theorem k_acmp_eq {rx ry : Option Nat} {off : Int} {tgt : Nat} (hd : decode y.2.1 pc = .ok (.if_acmp .eq off, 3)) (hp : pc + 3 = pc1) (ht : (pc : Int) + off = (tgt : Int))
    (kt : rx = ry → kW l G y d Φ Ψ k n tgt L st h) (kf : ¬ rx = ry → kW l G y d Φ Ψ k n pc1 L st h) : kW l G y d Φ Ψ k n pc L (va_rf ry :: va_rf rx :: st) h := by
  subst hp
  intro p e R s m args below meth c H locs cells slots ls F h1 h2 h3 h4 h5
  exact lv_acmp_eq F.1 F.2.1 hd ht (fun q => kt q p e R s m args below meth c H locs cells slots ls F h1 h2 h3 h4 h5) (fun q => kf q p e R s m args below meth c H locs cells slots ls F h1 h2 h3 h4 h5)
theorem k_acmp_ne {rx ry : Option Nat} {off : Int} {tgt : Nat} (hd : decode y.2.1 pc = .ok (.if_acmp .ne off, 3)) (hp : pc + 3 = pc1) (ht : (pc : Int) + off = (tgt : Int))
    (kt : ¬ rx = ry → kW l G y d Φ Ψ k n tgt L st h) (kf : rx = ry → kW l G y d Φ Ψ k n pc1 L st h) : kW l G y d Φ Ψ k n pc L (va_rf ry :: va_rf rx :: st) h := by
  subst hp
  intro p e R s m args below meth c H locs cells slots ls F h1 h2 h3 h4 h5
  exact lv_acmp_ne F.1 F.2.1 hd ht (fun q => kt q p e R s m args below meth c H locs cells slots ls F h1 h2 h3 h4 h5) (fun q => kf q p e R s m args below meth c H locs cells slots ls F h1 h2 h3 h4 h5)
theorem k_ifnonnull {x : Nat} {off : Int} {tgt : Nat} (hd : decode y.2.1 pc = .ok (.ifnonnull off, 3)) (ht : (pc : Int) + off = (tgt : Int)) (kk : kW l G y d Φ Ψ k n tgt L st h) : kW l G y d Φ Ψ k n pc L (.ref x :: st) h := by
  refine k_pure ?_ kk
  intro p e R s m args below meth c H locs cells slots Q ls hx hb hl kk
  exact lv_ifnonnull hx hb hd ht (kk ls hl)
theorem k_ifnonnullN {off : Int} (hd : decode y.2.1 pc = .ok (.ifnonnull off, 3)) (hp : pc + 3 = pc1) (kk : kW l G y d Φ Ψ k n pc1 L st h) : kW l G y d Φ Ψ k n pc L (.null :: st) h := by
  subst hp
  refine k_pure ?_ kk
  intro p e R s m args below meth c H locs cells slots Q ls hx hb hl kk
  exact lv_ifnonnullN hx hb hd (kk ls hl)
theorem k_ifnull {x : Nat} {off : Int} (hd : decode y.2.1 pc = .ok (.ifnull off, 3)) (hp : pc + 3 = pc1) (kk : kW l G y d Φ Ψ k n pc1 L st h) : kW l G y d Φ Ψ k n pc L (.ref x :: st) h := by
  subst hp
  refine k_pure ?_ kk
  intro p e R s m args below meth c H locs cells slots Q ls hx hb hl kk
  exact lv_ifnull hx hb hd (kk ls hl)
theorem k_ifnullN {off : Int} {tgt : Nat} (hd : decode y.2.1 pc = .ok (.ifnull off, 3)) (ht : (pc : Int) + off = (tgt : Int)) (kk : kW l G y d Φ Ψ k n tgt L st h) : kW l G y d Φ Ψ k n pc L (.null :: st) h := by
  refine k_pure ?_ kk
  intro p e R s m args below meth c H locs cells slots Q ls hx hb hl kk
  exact lv_ifnullN hx hb hd ht (kk ls hl)
theorem k_widen {k' n' : Nat} (h1 : k' ≤ k) (h2 : n' ≤ n) (kk : kW l G y d Φ Ψ k' n' pc L st h) : kW l G y d Φ Ψ k n pc L st h := by
  intro p e R s m args below meth c H locs cells slots ls F g1 g2 h3 h4 h5
  exact kk p e R s m args below meth c H locs cells slots ls F (by omega) (by omega) h3 h4 h5
theorem k_weak {L' : List (Option Value)} (hL : ∀ (i : Nat) (v : Value), L'[i]? = some (some v) → L[i]? = some (some v)) (kk : kW l G y d Φ Ψ k n pc L' st h) : kW l G y d Φ Ψ k n pc L st h := by
  intro p e R s m args below meth c H locs cells slots ls F g1 g2 h3 h4 h5
  refine kk p e R s m args below meth c H locs cells slots ls F g1 g2 h3 h4 ⟨h5.1, h5.2.1, fun q hq => ?_⟩
  obtain ⟨j, v⟩ := q
  have h6 := ((kpr_mem L' 0 j v).mp hq).2
  exact h5.2.2 (j, v) ((kpr_mem L 0 j v).mpr ⟨Nat.zero_le _, hL _ _ h6⟩)
theorem k_tableOut {dflt lo hi : Int} {offs : Array Int} {len : Nat} {x : Int} {tgt : Nat} (hd : decode y.2.1 pc = .ok (.tableswitch dflt lo hi offs, len)) (hr : -2147483648 ≤ x ∧ x < 2147483648) (hx : x < lo ∨ hi < x) (ht : (pc : Int) + dflt = (tgt : Int)) (kk : kW l G y d Φ Ψ k n tgt L st h) : kW l G y d Φ Ψ k n pc L (.int (iI x) :: st) h := by
  refine k_pure ?_ kk
  intro p e R s m args below meth c H locs cells slots Q ls hx9 hb hl kk
  exact lv_tableOut hx9 hb hd (by rw [iI_toInt hr.1 hr.2]; exact hx) ht (kk ls hl)
theorem k_tableIn {dflt lo hi : Int} {offs : Array Int} {len : Nat} {x off : Int} {tgt : Nat} (hd : decode y.2.1 pc = .ok (.tableswitch dflt lo hi offs, len)) (hr : -2147483648 ≤ x ∧ x < 2147483648) (h1 : lo ≤ x) (h2 : x ≤ hi) (ho : offs[(x - lo).toNat]? = some off) (ht : (pc : Int) + off = (tgt : Int)) (kk : kW l G y d Φ Ψ k n tgt L st h) : kW l G y d Φ Ψ k n pc L (.int (iI x) :: st) h := by
  refine k_pure ?_ kk
  intro p e R s m args below meth c H locs cells slots Q ls hx9 hb hl kk
  exact lv_tableIn hx9 hb hd (by rw [iI_toInt hr.1 hr.2]; omega) (by rw [iI_toInt hr.1 hr.2]; omega) (by rw [iI_toInt hr.1 hr.2]; exact ho) ht (kk ls hl)
theorem k_iret {x : Int32} {ty : FieldType} (hd : decode y.2.1 pc = .ok (.ireturn, 1)) (hr : y.2.2.2.1 = some ty) (hn : narrow ty (.int x) = .int x) (hq : Φ (some (.int x)) h) : kW l G y d Φ Ψ k n pc L [.int x] h := by
  intro p e R s m args below meth c H locs cells slots ls F h1 h2 h3 h4 h5
  refine vx_ret (W.widen (k := R.cells) (n := R.slots) (by omega) (by omega) ?_)
  obtain ⟨hx, hb, hml, hr9, hlocks, hnm, hown, htab, hts, hE, hfr, hlo, hN, hl9⟩ := F
  exact W.zret hx hb (hr9.trans hr) hn (fun t ht hW => ⟨⟨_, h, rfl, hq, by rw [ht]; exact h3⟩, by rw [ht]; exact h4.1, fun q q1 q2 => by rw [ht]; exact h4.2.1 q q1 q2⟩) h4.2.2 hd hlocks
theorem k_vret  (hd : decode y.2.1 pc = .ok (.return_, 1)) (hr : y.2.2.2.1 = none) (hq : Φ none h) : kW l G y d Φ Ψ k n pc L [] h := by
  intro p e R s m args below meth c H locs cells slots ls F h1 h2 h3 h4 h5
  refine vx_ret (W.widen (k := R.cells) (n := R.slots) (by omega) (by omega) ?_)
  obtain ⟨hx, hb, hml, hr9, hlocks, hnm, hown, htab, hts, hE, hfr, hlo, hN, hl9⟩ := F
  exact W.vret hx hb (hr9.trans hr) (fun t ht hW => ⟨⟨_, h, rfl, hq, by rw [ht]; exact h3⟩, by rw [ht]; exact h4.1, fun q q1 q2 => by rw [ht]; exact h4.2.1 q q1 q2⟩) h4.2.2 hd hlocks
theorem k_aret {v : Value} {ty : FieldType} (hd : decode y.2.1 pc = .ok (.areturn, 1)) (hr : y.2.2.2.1 = some ty) (hrt : (∃ n, ty = .object n) ∨ ∃ t, ty = .array t) (hv : v = .null ∨ ∃ a, v = .ref a) (hq : Φ (some v) h) : kW l G y d Φ Ψ k n pc L [v] h := by
  intro p e R s m args below meth c H locs cells slots ls F h1 h2 h3 h4 h5
  refine vx_ret (W.widen (k := R.cells) (n := R.slots) (by omega) (by omega) ?_)
  obtain ⟨hx, hb, hml, hr9, hlocks, hnm, hown, htab, hts, hE, hfr, hlo, hN, hl9⟩ := F
  exact W.aret hx hb (hr9.trans hr) hrt hv (fun t ht hW => ⟨⟨_, h, rfl, hq, by rw [ht]; exact h3⟩, by rw [ht]; exact h4.1, fun q q1 q2 => by rw [ht]; exact h4.2.1 q q1 q2⟩) h4.2.2 hd hlocks
theorem k_lret {x : Int64} (hd : decode y.2.1 pc = .ok (.lreturn, 1)) (hr : y.2.2.2.1 = some .long) (hq : Φ (some (.long x)) h) : kW l G y d Φ Ψ k n pc L [.long x] h := by
  intro p e R s m args below meth c H locs cells slots ls F h1 h2 h3 h4 h5
  refine vx_ret (W.widen (k := R.cells) (n := R.slots) (by omega) (by omega) ?_)
  obtain ⟨hx, hb, hml, hr9, hlocks, hnm, hown, htab, hts, hE, hfr, hlo, hN, hl9⟩ := F
  exact W.lret hx hb (hr9.trans hr) (fun t ht hW => ⟨⟨_, h, rfl, hq, by rw [ht]; exact h3⟩, by rw [ht]; exact h4.1, fun q q1 q2 => by rw [ht]; exact h4.2.1 q q1 q2⟩) h4.2.2 hd hlocks
theorem k_fret {x : UInt32} (hd : decode y.2.1 pc = .ok (.freturn, 1)) (hr : y.2.2.2.1 = some .float) (hq : Φ (some (.float x)) h) : kW l G y d Φ Ψ k n pc L [.float x] h := by
  intro p e R s m args below meth c H locs cells slots ls F h1 h2 h3 h4 h5
  refine vx_ret (W.widen (k := R.cells) (n := R.slots) (by omega) (by omega) ?_)
  obtain ⟨hx, hb, hml, hr9, hlocks, hnm, hown, htab, hts, hE, hfr, hlo, hN, hl9⟩ := F
  exact W.fret hx hb (hr9.trans hr) (fun t ht hW => ⟨⟨_, h, rfl, hq, by rw [ht]; exact h3⟩, by rw [ht]; exact h4.1, fun q q1 q2 => by rw [ht]; exact h4.2.1 q q1 q2⟩) h4.2.2 hd hlocks
theorem k_dret {x : UInt64} (hd : decode y.2.1 pc = .ok (.dreturn, 1)) (hr : y.2.2.2.1 = some .double) (hq : Φ (some (.double x)) h) : kW l G y d Φ Ψ k n pc L [.double x] h := by
  intro p e R s m args below meth c H locs cells slots ls F h1 h2 h3 h4 h5
  refine vx_ret (W.widen (k := R.cells) (n := R.slots) (by omega) (by omega) ?_)
  obtain ⟨hx, hb, hml, hr9, hlocks, hnm, hown, htab, hts, hE, hfr, hlo, hN, hl9⟩ := F
  exact W.dret hx hb (hr9.trans hr) (fun t ht hW => ⟨⟨_, h, rfl, hq, by rw [ht]; exact h3⟩, by rw [ht]; exact h4.1, fun q q1 q2 => by rw [ht]; exact h4.2.1 q q1 q2⟩) h4.2.2 hd hlocks
end KR
