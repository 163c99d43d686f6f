/-! ===== constructors ===== -/
section RCT
variable {p : Program} {l : Launch} {e : Env} {R : Room} {s : State} {m : MethodId} {args : Array Value} {below : List Frame} {meth : Method} {c : Code} {H : Heap} {locs : List Loc} {cells slots : Nat} {Q : State → Prop}
variable {cc : ByteArray} {nL : Nat} {own : String} {Ts : List Cond} {G : va_G} {tys : List (ClassId × FieldType)} {L : List Cond} {A : Nat → Prop} {w w' : va_W} {pc : Nat} {rest : List Value} {ls : Array Slot}
theorem rk_newI (X : rh_X p s m args c cc nL own Ts G tys L A) (h : rh_W G A s H locs w) (t0 : Nat) {cy : ClassId} (ht : tys[t0]? = some (cy, .int)) (harr : Cond.arrayClass .int ∈ Ts) {atype : ArrayType} (hat : newarray.typeOf atype = .int) {z : Int32} {N : Nat} (hz : z = nI N) (hN : N ≤ 100000) (hc : cells + 1 ≤ R.cells) (hs : slots + N ≤ R.slots) (hdg : decode cc pc = .ok (.newarray atype, 2))
    (kk : ∀ (q : Nat) (H1 : Heap), rh_W G A s H1 locs (w ++ [(q, .inl (cy, N, .inl (fun _ => 0)))]) → W p l e R s m args below meth c H1 locs (cells + 1) (slots + N) Q (F0 m (pc + 2) ls (.ref q :: rest))) : W p l e R s m args below meth c H locs cells slots Q (F0 m pc ls (.int z :: rest)) := by
  subst hz
  refine va_newa X.1 X.2.1 (by rw [hat]; exact X.2.2.2.2.1 _ harr) hat X.2.2.2.2.2.1 h.1 h.2.1 h.2.2 X.2.2.2.2.2.2.2 (a0 := (N, .inl (fun _ => 0))) (fun cA => by rw [vp_cell_i]; rfl) (nI_pos (by omega)) (nI_clamp (by omega)) (by show N * 4 ≤ _; omega) hc hs hdg (fun q cA H1 k1 p1 d1 s1 => ?_)
  have e1 : s.vm.findClass ("[" ++ FieldType.int.toString) = some cA := (k1.2 tys.length (cA, .int) (by simp)).2
  have e2 : s.vm.findClass ("[" ++ FieldType.int.toString) = some cy := (X.2.2.2.2.2.1.2 t0 (cy, .int) ht).2
  cases Option.some.inj (e1.symm.trans e2)
  exact kk q H1 ⟨p1, d1, s1⟩
theorem rk_newZ (X : rh_X p s m args c cc nL own Ts G tys L A) (h : rh_W G A s H locs w) (t0 : Nat) {cy : ClassId} (ht : tys[t0]? = some (cy, .boolean)) (harr : Cond.arrayClass .boolean ∈ Ts) {atype : ArrayType} (hat : newarray.typeOf atype = .boolean) {z : Int32} {N : Nat} (hz : z = nI N) (hN : N ≤ 100000) (hc : cells + 1 ≤ R.cells) (hs : slots + N ≤ R.slots) (hdg : decode cc pc = .ok (.newarray atype, 2))
    (kk : ∀ (q : Nat) (H1 : Heap), rh_W G A s H1 locs (w ++ [(q, .inl (cy, N, .inl (fun _ => 0)))]) → W p l e R s m args below meth c H1 locs (cells + 1) (slots + N) Q (F0 m (pc + 2) ls (.ref q :: rest))) : W p l e R s m args below meth c H locs cells slots Q (F0 m pc ls (.int z :: rest)) := by
  subst hz
  refine va_newa X.1 X.2.1 (by rw [hat]; exact X.2.2.2.2.1 _ harr) hat X.2.2.2.2.2.1 h.1 h.2.1 h.2.2 X.2.2.2.2.2.2.2 (a0 := (N, .inl (fun _ => 0))) (fun cA => by rw [vp_cell_i]; rfl) (nI_pos (by omega)) (nI_clamp (by omega)) (by show N * 1 ≤ _; omega) hc hs hdg (fun q cA H1 k1 p1 d1 s1 => ?_)
  have e1 : s.vm.findClass ("[" ++ FieldType.boolean.toString) = some cA := (k1.2 tys.length (cA, .boolean) (by simp)).2
  have e2 : s.vm.findClass ("[" ++ FieldType.boolean.toString) = some cy := (X.2.2.2.2.2.1.2 t0 (cy, .boolean) ht).2
  cases Option.some.inj (e1.symm.trans e2)
  exact kk q H1 ⟨p1, d1, s1⟩
theorem rk_putF (X : rh_X p s m args c cc nL own Ts G tys L A) (h : rh_W G A s H locs w) (hini : meth.name = "<init>") {C : String} {T : u_T} {N ci index : Nat} (hin : ∀ w ∈ u_ws C T N, w ∈ Ts) (ty0 : Nat → FieldType) (hty : ∀ k, k < N → parseFieldDescriptor (T k).2.2.1 = some (ty0 k)) (hnm : ∀ a, a < N → ∀ b, b < N → a ≠ b → (T a).2.1 ≠ (T b).2.1) (q0 k : Nat) {a : Nat} {fs : List Value} (he : w[q0]? = some (a, .inr (ci, fs))) (hc : vwCl[ci]? = some (C, T, N)) (hk : k < N) (hlk : Cond.fieldLink own index (T k).1 (T k).2.1 (T k).2.2.1 ∈ Ts) (hfin : (T k).2.2.2 = true) (hdecl : (T k).1 = own) {v : Value} (hnv : narrow (ty0 k) v = v) (hfit : fits (ty0 k) v = true) (hlf : k < fs.length) (hdg : decode cc pc = .ok (.putfield index, 3))
    (kk : ∀ (H1 : Heap) (locs1 : List Loc), rh_W G A s H1 locs1 (w.set q0 (a, .inr (ci, fs.set k v))) → W p l e R s m args below meth c H1 locs1 cells slots Q (F0 m (pc + 3) ls rest)) : W p l e R s m args below meth c H locs cells slots Q (F0 m pc ls (v :: .ref a :: rest)) :=
  va_putF X.1 X.2.1 X.2.2.2.2.1 hin ty0 hty hnm X.2.2.2.1 X.2.2.2.2.2.1 h.1 h.2.1 h.2.2 q0 he hc k hk (X.2.2.2.2.1 _ hlk) (fun _ h9 => h9) hfin hini hdecl (hty k hk) hnv hfit hlf hdg (fun H1 locs1 a1 a2 a3 => kk H1 locs1 ⟨a1, a2, a3⟩)
end RCT
/-- a constructor's contract out of its walk -/
theorem rk_of {S : Type} {l : Launch} {y : MethodName} {ws ws' : List Cond} {rm : Room} {G : va_G} {tys : List (ClassId × FieldType)} {L : List Cond} {w : va_W} {w' : S → va_W} {av : List Value} {cc : ByteArray} {maxL mc ms : Nat} (hin : y.name = "<init>") (hy : plainName y.cls = true) (hw : ws = Cond.code y cc maxL none :: ws') (hl : (lg_sl av).length ≤ maxL)
    (body : ∀ (p : Program) (e : Env) (s : State) (m : MethodId) (below : List Frame) (meth : Method) (c : Code) (A : Nat → Prop) (Q : State → Prop), meth.name = "<init>" → rh_X p s m av.toArray c cc maxL y.cls ws G tys L A →
      (∀ (u : S) (H : Heap) (locs : List Loc) (ls : Array Slot) (pc : Nat), decode cc pc = .ok (.return_, 1) → rh_W G A s H locs (w' u) → W p l e rm s m av.toArray below meth c H locs mc ms Q (F0 m pc ls [])) →
      ∀ (ls : Array Slot), lv_has ls maxL (lv_args 0 av) → rh_W G A s s.heap [] w → W p l e rm s m av.toArray below meth c s.heap [] 0 0 Q (F0 m 0 ls [])) :
    ∀ sz : Nat, Met l y ws rm (rh_Pre G tys L w sz av) (va_Qv (S := S) (fun _ => True) (fun u t => rh_At G tys (va_A w sz) (w' u) t) (va_A w sz)) mc ms (va_A w sz) := by
  intro sz
  refine Met.ofW (cc := cc) (maxL := maxL) (ret := none) hy hw ?_
  intro p e s m args below meth c s₁ B hml hv
  obtain ⟨rfl, hsz, hP, hK, hD0, hN⟩ := hv
  have hx := B.exec
  have hb := B.bytes
  have hr := B.returns
  have hts := atoms_spec (ws := ws) B.pre
  have hown : s.vm.findClass y.cls = some m.cls := findClass_of_methodNamed B.named
  have hlocks := B.notSynchronized
  have hname : meth.name = "<init>" := (name_of_methodNamed B.named B.method).1.trans hin
  subst hsz
  have hD := hD0.self (sz := s.heap.size)
  have hl9 := lv_entry av (n := maxL) hl
  rw [lg_entry_eq]
  refine body p e s m below meth c (va_A w s.heap.size) _ hname ⟨hx, hb, hml, hown, hts, hK, hN, fun q h => Or.inr h⟩ ?_ _ hl9 ⟨hP, hD, va_S.rf⟩
  intro u H locs ls pc hd h
  exact W.vret hx hb hr (fun t ht hW => ⟨⟨u, rfl, trivial, by rw [ht]; exact h.1, va_K.moved hW.alike hK, h.2.1⟩, h.2.2.F ht⟩) h.2.2.2.2 hd
/-- the number of cells, the quantum: as the document has it -/
def ck_n (p1 : Int32) : Int32 := if p1 < 16 then 64 else if 400 < p1 then 64 else p1
def ck_q (p2 : Int32) : Int32 := if p2 < 1 then 4 else if 64 < p2 then 4 else p2
theorem ck_n_nat (p1 : Int32) : ∃ n : Nat, 16 ≤ n ∧ n ≤ 400 ∧ ck_n p1 = nI n := by
  unfold ck_n
  split
  · exact ⟨64, by decide, by decide, rfl⟩
  · next h1 =>
    split
    · exact ⟨64, by decide, by decide, rfl⟩
    · next h2 =>
      have a1 : ¬ p1.toInt < 16 := fun q => h1 (Int32.lt_iff_toInt_lt.mpr q)
      have a2 : ¬ 400 < p1.toInt := fun q => h2 (Int32.lt_iff_toInt_lt.mpr q)
      obtain ⟨j, hj, ej⟩ := nI_of (x := p1) (fun q => h1 (by
        have := Int32.lt_iff_toInt_lt.mp q
        exact Int32.lt_iff_toInt_lt.mpr (Int.lt_trans this (by decide))))
      have e3 : p1.toInt = (j : Int) := by rw [ej]; exact nI_toInt hj
      exact ⟨j, by omega, by omega, ej⟩
