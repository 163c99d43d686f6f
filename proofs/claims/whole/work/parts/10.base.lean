/-! ===== my base: words of nest mates, contracts over one world, rows over it ===== -/
def rn_is (w : Cond) : Bool := match w with
  | .fieldLinkNest .. => true
  | .methodLinkNest .. => true
  | .declares .. => true
  | .castable .. => true
  | _ => false
def rn_names : List String := ["java/lang/RuntimeException", "java/lang/Exception"]
def rn_bad (ic : Nat) (E : String) : List Cond := (vx_at0 RX2 ic E rn_names).filter (fun w => !goodWord w)
def rn_C : List Cond := [.methodLinkNest RX2 19 yX0_init RX2, .fieldLinkNest RX2 111 "ReplicaHeap$Log" "places" "[I" RX2, .fieldLinkNest RX2 114 "ReplicaHeap$Log" "fields" "[I" RX2, .fieldLinkNest RX2 108 "ReplicaHeap$Log" "size" "I" RX2, .fieldLinkNest RX2 120 "ReplicaHeap$Log" "taken" "I" RX2, .methodLinkNest RX2 33 yX1_init RX2, .fieldLinkNest RX2 88 "ReplicaHeap$Space" "index" "I" RX2, .fieldLinkNest RX2 95 "ReplicaHeap$Space" "kinds" "[I" RX2, .fieldLinkNest RX2 98 "ReplicaHeap$Space" "values" "[I" RX2, .fieldLinkNest RX2 105 "ReplicaHeap$Space" "replicas" "[I" RX2, .fieldLinkNest RX2 78 "ReplicaHeap$Space" "used" "I" RX2, .methodLinkNest RX2 57 yX1_hasRoom RX2, .methodLinkNest RX2 135 yX1_setCell RX2, .methodLinkNest RX2 167 yX0_clear RX2, .methodLinkNest RX2 60 yX1_layObject RX2, .methodLinkNest RX2 139 yX0_add RX2] ++ (rn_bad 49 "java/lang/IllegalArgumentException" ++ (rn_bad 87 "java/lang/IllegalStateException" ++ rn_bad 104 "java/lang/IndexOutOfBoundsException"))
theorem rn_C_is : ∀ w ∈ rn_C, rn_is w = true := by decide +kernel
/-- the words of nest mates hold -/
def rn (L : List Cond) (U : State) : Prop := (∀ w ∈ L, rn_is w = true) ∧ ∀ w ∈ L, va_Nw w U
theorem rn.warm {L : List Cond} {s U : State} (hW : s.WarmedH U.vm) (h : rn L s) : rn L U := by
  refine ⟨h.1, fun w hw => ?_⟩
  have h1 := h.1 w hw
  have h2 := h.2 w hw
  unfold rn_is at h1
  split at h1
  · exact va_Nw.warmF hW h2
  · exact va_Nw.warmM hW h2
  · exact va_Nw.warmD hW h2
  · exact va_Nw.warmC hW h2
  · cases h1
theorem rn.same {L : List Cond} {u U : State} (hv : u.vm = U.vm) (h : rn L u) : rn L U := by
  refine ⟨h.1, fun w hw => ?_⟩
  have h1 := h.1 w hw
  have h2 := h.2 w hw
  unfold rn_is at h1
  split at h1
  · exact va_Nw.same rfl hv h2
  · exact va_Nw.same rfl hv h2
  · exact va_Nw.same rfl hv h2
  · exact va_Nw.same rfl hv h2
  · cases h1
/-- what is fixed in a method's walk -/
def rh_X (p : Program) (s : State) (m : MethodId) (args : Array Value) (c : Code) (cc : ByteArray) (nL : Nat) (own : String) (Ts : List Cond) (G : va_G) (tys : List (ClassId × FieldType)) (L : List Cond) (A : Nat → Prop) : Prop :=
  p.tables.exec = Jvm.exec ∧ c.code = cc ∧ c.maxLocals = nL ∧ s.vm.findClass own = some m.cls ∧ (∀ w ∈ Ts, w.before args s = true) ∧ va_K G vwCl tys s ∧ rn L s ∧ ∀ q : Nat, s.heap.size ≤ q → A q
/-- the world, as it stands -/
def rh_W (G : va_G) (A : Nat → Prop) (s : State) (H : Heap) (locs : List Loc) (w : va_W) : Prop := va_P G vwCl w H ∧ va_D A w ∧ va_S A s.heap H locs
/-- a contract's start over a world w, and its ends -/
def rh_Pre (G : va_G) (tys : List (ClassId × FieldType)) (L : List Cond) (w : va_W) (sz : Nat) (av : List Value) : Array Value → State → Prop := va_Pc av (fun U => U.heap.size = sz ∧ va_P G vwCl w U.heap ∧ va_K G vwCl tys U ∧ va_D (fun _ => True) w ∧ rn L U)
def rh_At (G : va_G) (tys : List (ClassId × FieldType)) (A : Nat → Prop) (w : va_W) (t : State) : Prop := va_P G vwCl w t.heap ∧ va_K G vwCl tys t ∧ va_D A w
def rh_Qi (G : va_G) (tys : List (ClassId × FieldType)) (w : va_W) (sz : Nat) (r : Int32) (w' : va_W) : Array Value → State → Outcome → State → Prop := va_Qi (S := Unit) (fun r1 _ => r1 = r) (fun _ t => rh_At G tys (va_A w sz) w' t) (va_A w sz)
def rh_Qv (G : va_G) (tys : List (ClassId × FieldType)) (w : va_W) (sz : Nat) (w' : va_W) : Array Value → State → Outcome → State → Prop := va_Qv (S := Unit) (fun _ => True) (fun _ t => rh_At G tys (va_A w sz) w' t) (va_A w sz)
/-- a method that answers an int, changes the world w to w', makes nothing -/
def rh_Mi (l : Launch) (y : MethodName) (ws : List Cond) (rm : Room) (G : va_G) (tys : List (ClassId × FieldType)) (L : List Cond) (w : va_W) (av : List Value) (r : Int32) (w' : va_W) : Prop := ∀ sz : Nat, Met l y ws rm (rh_Pre G tys L w sz av) (rh_Qi G tys w sz r w') 0 0 (va_A w sz)
def rh_Mv (l : Launch) (y : MethodName) (ws : List Cond) (rm : Room) (G : va_G) (tys : List (ClassId × FieldType)) (L : List Cond) (w : va_W) (av : List Value) (w' : va_W) : Prop := ∀ sz : Nat, Met l y ws rm (rh_Pre G tys L w sz av) (rh_Qv G tys w sz w') 0 0 (va_A w sz)
theorem rh_blind {G : va_G} {tys : List (ClassId × FieldType)} {L : List Cond} {w : va_W} {sz : Nat} {av : List Value} : FrameBlind (rh_Pre G tys L w sz av) := by
  intro a U g mk q
  obtain ⟨q0, q1, qP, qK, qD, qN⟩ := q
  exact ⟨q0, q1, qP, va_K.moved (u := U) (U := U.calling g mk a) (Vm.Alike.refl U.vm) qK, qD, rn.same (u := U) (U := U.calling g mk a) rfl qN⟩
theorem rh_free {G : va_G} {A : Nat → Prop} {s : State} {H : Heap} {locs : List Loc} {w : va_W} (hA : ∀ q : Nat, s.heap.size ≤ q → A q) (h : rh_W G A s H locs w) : ∀ q, va_A w H.size q → A q := by
  intro q hq
  rcases hq with ⟨k, e, hk⟩ | hq
  · exact h.2.1.2 k _ hk
  · exact hA q (Nat.le_trans h.2.2.1 hq)
theorem rh_start {G : va_G} {tys : List (ClassId × FieldType)} {L : List Cond} {A : Nat → Prop} {s : State} {H : Heap} {locs : List Loc} {w : va_W} {av : List Value} {p : Program} {m : MethodId} {args : Array Value} {c : Code} {cc : ByteArray} {nL : Nat} {own : String} {Ts : List Cond} (X : rh_X p s m args c cc nL own Ts G tys L A) (h : rh_W G A s H locs w) : ∀ U : State, U.heap = H → s.WarmedH U.vm → rh_Pre G tys L w H.size av av.toArray U := by
  intro U hU hW
  exact ⟨rfl, by rw [hU], by rw [hU]; exact h.1, va_K.moved hW.alike X.2.2.2.2.2.1, h.2.1.weaken (fun _ _ _ _ => trivial), rn.warm hW X.2.2.2.2.2.2.1⟩
section RHC
variable {p : Program} {l : Launch} {e : Env} {R : Room} {s : State} {m : MethodId} {args : Array Value} {below : List Frame} {meth : Method} {c : Code} {H : Heap} {locs : List Loc} {cells slots : Nat} {Q : State → Prop}
variable {cc : ByteArray} {nL : Nat} {own : String} {Ts : List Cond} {G : va_G} {tys : List (ClassId × FieldType)} {L : List Cond} {A : Nat → Prop} {w w' : va_W}
variable {y : MethodName} {bytes : ByteArray} {maxL n index pc : Nat} {ret : Option FieldType} {ws : List Cond} {rm : Room} {C host : String} {b : Addr} {As rest st0 : List Value} {ls : Array Slot} {r : Int32}
theorem rh_back_i (X : rh_X p s m args c cc nL own Ts G tys L A) (h : rh_W G A s H locs w) {a : Array Value} (hr : va_Run p l e R s m args below meth c H locs cells slots 0 0 (F0 m pc ls st0) rest (rh_Qi G tys w H.size r w' a) (va_A w H.size))
    (kk : ∀ (H1 : Heap) (locs1 : List Loc), rh_W G A s H1 locs1 w' → W p l e R s m args below meth c H1 locs1 cells slots Q (F0 m (pc + 3) ls (.int r :: rest))) : W p l e R s m args below meth c H locs cells slots Q (F0 m pc ls st0) := by
  have hF := rh_free X.2.2.2.2.2.2.2 h
  refine va_calli hr h.2.2 (fun q _ hq => hF q hq) hF (fun r1 u t H1 locs1 ht hvm hw hB hz hk hS => ?_)
  subst hw
  obtain ⟨hP1, hK1, hD1⟩ := hB
  exact kk H1 locs1 ⟨by rw [← ht]; exact hP1, hD1.weaken (fun _ _ _ hq => hF _ hq), hS⟩
theorem rh_back_v (X : rh_X p s m args c cc nL own Ts G tys L A) (h : rh_W G A s H locs w) {a : Array Value} (hr : va_Run p l e R s m args below meth c H locs cells slots 0 0 (F0 m pc ls st0) rest (rh_Qv G tys w H.size w' a) (va_A w H.size))
    (kk : ∀ (H1 : Heap) (locs1 : List Loc), rh_W G A s H1 locs1 w' → W p l e R s m args below meth c H1 locs1 cells slots Q (F0 m (pc + 3) ls rest)) : W p l e R s m args below meth c H locs cells slots Q (F0 m pc ls st0) := by
  have hF := rh_free X.2.2.2.2.2.2.2 h
  refine va_callv hr h.2.2 (fun q _ hq => hF q hq) hF (fun u t H1 locs1 ht hvm hw hB hz hk hS => ?_)
  obtain ⟨hP1, hK1, hD1⟩ := hB
  exact kk H1 locs1 ⟨by rw [← ht]; exact hP1, hD1.weaken (fun _ _ _ hq => hF _ hq), hS⟩
/-- invokevirtual -/
theorem rh_Vi (X : rh_X p s m args c cc nL own Ts G tys L A) (h : rh_W G A s H locs w) (hM : rh_Mi l y ws rm G tys L w (.ref b :: As) r w') (cw : CallW R s args own C index y bytes maxL ret ws rm 0 0 n) (hrec : ∃ cellB : Cell, H[b]? = some cellB ∧ cellB.vm.isStatics = false ∧ s.vm.findClass C = some cellB.cls)
    (hn : As.length = n) (hl : ls.size = nL) (hst : st0 = As.reverse ++ .ref b :: rest) (hro : (rest.map fun v => v.category).sum ≤ 8) (hdg : decode cc pc = .ok (.invokevirtual index, 3)) (hf : cells + 0 ≤ R.cells ∧ slots + 0 ≤ R.slots)
    (kk : ∀ (H1 : Heap) (locs1 : List Loc), rh_W G A s H1 locs1 w' → W p l e R s m args below meth c H1 locs1 cells slots Q (F0 m (pc + 3) ls (.int r :: rest))) : W p l e R s m args below meth c H locs cells slots Q (F0 m pc ls st0) := by
  subst hst
  exact rh_back_i X h (va_runV ⟨X.1, X.2.1, X.2.2.1, X.2.2.2.1, X.2.2.2.2.1⟩ (hM H.size) cw ⟨rh_blind, hrec, rh_start X h⟩ rfl hn hl rfl (lv_room hro) hdg hf) kk
theorem rh_Vv (X : rh_X p s m args c cc nL own Ts G tys L A) (h : rh_W G A s H locs w) (hM : rh_Mv l y ws rm G tys L w (.ref b :: As) w') (cw : CallW R s args own C index y bytes maxL ret ws rm 0 0 n) (hrec : ∃ cellB : Cell, H[b]? = some cellB ∧ cellB.vm.isStatics = false ∧ s.vm.findClass C = some cellB.cls)
    (hn : As.length = n) (hl : ls.size = nL) (hst : st0 = As.reverse ++ .ref b :: rest) (hro : (rest.map fun v => v.category).sum ≤ 8) (hdg : decode cc pc = .ok (.invokevirtual index, 3)) (hf : cells + 0 ≤ R.cells ∧ slots + 0 ≤ R.slots)
    (kk : ∀ (H1 : Heap) (locs1 : List Loc), rh_W G A s H1 locs1 w' → W p l e R s m args below meth c H1 locs1 cells slots Q (F0 m (pc + 3) ls rest)) : W p l e R s m args below meth c H locs cells slots Q (F0 m pc ls st0) := by
  subst hst
  exact rh_back_v X h (va_runV ⟨X.1, X.2.1, X.2.2.1, X.2.2.2.1, X.2.2.2.2.1⟩ (hM H.size) cw ⟨rh_blind, hrec, rh_start X h⟩ rfl hn hl rfl (lv_room hro) hdg hf) kk
/-- invokevirtual of a nest mate's private method -/
theorem rh_Ni (X : rh_X p s m args c cc nL own Ts G tys L A) (h : rh_W G A s H locs w) (hM : rh_Mi l y ws rm G tys L w (.ref b :: As) r w') (cw : va_CN R s args own index y host bytes maxL ret ws rm 0 0 n ∧ (Cond.instanceMethod y).before args s = true ∧ (Cond.selects C y y).before args s = true) (hrec : ∃ cellB : Cell, H[b]? = some cellB ∧ cellB.vm.isStatics = false ∧ s.vm.findClass C = some cellB.cls)
    (hn : As.length = n) (hl : ls.size = nL) (hst : st0 = As.reverse ++ .ref b :: rest) (hro : (rest.map fun v => v.category).sum ≤ 8) (hdg : decode cc pc = .ok (.invokevirtual index, 3)) (hf : cells + 0 ≤ R.cells ∧ slots + 0 ≤ R.slots)
    (kk : ∀ (H1 : Heap) (locs1 : List Loc), rh_W G A s H1 locs1 w' → W p l e R s m args below meth c H1 locs1 cells slots Q (F0 m (pc + 3) ls (.int r :: rest))) : W p l e R s m args below meth c H locs cells slots Q (F0 m pc ls st0) := by
  subst hst
  exact rh_back_i X h (va_runVN ⟨X.1, X.2.1, X.2.2.1, X.2.2.2.1, X.2.2.2.2.1⟩ (hM H.size) cw ⟨rh_blind, hrec, rh_start X h⟩ rfl hn hl rfl (lv_room hro) hdg hf) kk
theorem rh_Nv (X : rh_X p s m args c cc nL own Ts G tys L A) (h : rh_W G A s H locs w) (hM : rh_Mv l y ws rm G tys L w (.ref b :: As) w') (cw : va_CN R s args own index y host bytes maxL ret ws rm 0 0 n ∧ (Cond.instanceMethod y).before args s = true ∧ (Cond.selects C y y).before args s = true) (hrec : ∃ cellB : Cell, H[b]? = some cellB ∧ cellB.vm.isStatics = false ∧ s.vm.findClass C = some cellB.cls)
    (hn : As.length = n) (hl : ls.size = nL) (hst : st0 = As.reverse ++ .ref b :: rest) (hro : (rest.map fun v => v.category).sum ≤ 8) (hdg : decode cc pc = .ok (.invokevirtual index, 3)) (hf : cells + 0 ≤ R.cells ∧ slots + 0 ≤ R.slots)
    (kk : ∀ (H1 : Heap) (locs1 : List Loc), rh_W G A s H1 locs1 w' → W p l e R s m args below meth c H1 locs1 cells slots Q (F0 m (pc + 3) ls rest)) : W p l e R s m args below meth c H locs cells slots Q (F0 m pc ls st0) := by
  subst hst
  exact rh_back_v X h (va_runVN ⟨X.1, X.2.1, X.2.2.1, X.2.2.2.1, X.2.2.2.2.1⟩ (hM H.size) cw ⟨rh_blind, hrec, rh_start X h⟩ rfl hn hl rfl (lv_room hro) hdg hf) kk
/-- invokestatic -/
theorem rh_Si (X : rh_X p s m args c cc nL own Ts G tys L A) (h : rh_W G A s H locs w) (hM : rh_Mi l y ws rm G tys L w As r w') (cw : CallB R s args own index y bytes maxL ret ws rm 0 0 n ∧ (Cond.static y).before args s = true)
    (hn : As.length = n) (hl : ls.size = nL) (hst : st0 = As.reverse ++ rest) (hro : (rest.map fun v => v.category).sum ≤ 8) (hdg : decode cc pc = .ok (.invokestatic index, 3)) (hf : cells + 0 ≤ R.cells ∧ slots + 0 ≤ R.slots)
    (kk : ∀ (H1 : Heap) (locs1 : List Loc), rh_W G A s H1 locs1 w' → W p l e R s m args below meth c H1 locs1 cells slots Q (F0 m (pc + 3) ls (.int r :: rest))) : W p l e R s m args below meth c H locs cells slots Q (F0 m pc ls st0) := by
  subst hst
  exact rh_back_i X h (va_runS ⟨X.1, X.2.1, X.2.2.1, X.2.2.2.1, X.2.2.2.2.1⟩ (hM H.size) cw ⟨rh_blind, rh_start X h⟩ rfl hn hl rfl (lv_room hro) hdg hf) kk
/-- getfield, of the own class and of a nest mate -/
theorem rh_get (X : rh_X p s m args c cc nL own Ts G tys L A) (h : rh_W G A s H locs w) {C : String} {T : u_T} {N ci : Nat} (hin : ∀ w ∈ u_ws C T N, w ∈ Ts) (q0 k : Nat) {a : Nat} {fs : List Value} (he : w[q0]? = some (a, .inr (ci, fs))) (hc : vwCl[ci]? = some (C, T, N)) (hk : k < N) (hlk : Cond.fieldLink own index (T k).1 (T k).2.1 (T k).2.2.1 ∈ Ts) {v : Value} (hv : fs[k]? = some v) (hdg : decode cc pc = .ok (.getfield index, 3))
    (kk : W p l e R s m args below meth c H locs cells slots Q (F0 m (pc + 3) ls (v :: rest))) : W p l e R s m args below meth c H locs cells slots Q (F0 m pc ls (.ref a :: rest)) :=
  va_get X.1 X.2.1 X.2.2.2.2.1 hin X.2.2.2.1 X.2.2.2.2.2.1 h.1 q0 he hc k hk (X.2.2.2.2.1 _ hlk) (fun _ h9 => h9) hv hdg kk
theorem rh_getN (X : rh_X p s m args c cc nL own Ts G tys L A) (h : rh_W G A s H locs w) {C : String} {T : u_T} {N ci : Nat} (hin : ∀ w ∈ u_ws C T N, w ∈ Ts) (q0 k : Nat) {a : Nat} {fs : List Value} (he : w[q0]? = some (a, .inr (ci, fs))) (hc : vwCl[ci]? = some (C, T, N)) (hk : k < N) (hlk : Cond.fieldLinkNest own index (T k).1 (T k).2.1 (T k).2.2.1 host ∈ L) {v : Value} (hv : fs[k]? = some v) (hdg : decode cc pc = .ok (.getfield index, 3))
    (kk : W p l e R s m args below meth c H locs cells slots Q (F0 m (pc + 3) ls (v :: rest))) : W p l e R s m args below meth c H locs cells slots Q (F0 m pc ls (.ref a :: rest)) :=
  va_getN X.1 X.2.1 X.2.2.2.2.1 hin X.2.2.2.1 X.2.2.2.2.2.1 h.1 q0 he hc k hk (va_Nw.use rfl (X.2.2.2.2.2.2.1.2 _ hlk)) (fun _ h9 => h9) hv hdg kk
theorem rh_put (X : rh_X p s m args c cc nL own Ts G tys L A) (h : rh_W G A s H locs w) {C : String} {T : u_T} {N ci : Nat} (hin : ∀ w ∈ u_ws C T N, w ∈ Ts) (ty0 : Nat → FieldType) (hty : ∀ k, k < N → parseFieldDescriptor (T k).2.2.1 = some (ty0 k)) (hnm : ∀ a, a < N → ∀ b, b < N → a ≠ b → (T a).2.1 ≠ (T b).2.1) (q0 k : Nat) {a : Nat} {fs : List Value} (he : w[q0]? = some (a, .inr (ci, fs))) (hc : vwCl[ci]? = some (C, T, N)) (hk : k < N) (hlk : Cond.fieldLink own index (T k).1 (T k).2.1 (T k).2.2.1 ∈ Ts) (hfin : (T k).2.2.2 = false) {v : Value} (hnv : narrow (ty0 k) v = v) (hfit : fits (ty0 k) v = true) (hlf : k < fs.length) (hdg : decode cc pc = .ok (.putfield index, 3))
    (kk : ∀ (H1 : Heap) (locs1 : List Loc), rh_W G A s H1 locs1 (w.set q0 (a, .inr (ci, fs.set k v))) → W p l e R s m args below meth c H1 locs1 cells slots Q (F0 m (pc + 3) ls rest)) : W p l e R s m args below meth c H locs cells slots Q (F0 m pc ls (v :: .ref a :: rest)) :=
  va_put X.1 X.2.1 X.2.2.2.2.1 hin ty0 hty hnm X.2.2.2.1 X.2.2.2.2.2.1 h.1 h.2.1 h.2.2 q0 he hc k hk (X.2.2.2.2.1 _ hlk) (fun _ h9 => h9) hfin (hty k hk) hnv hfit hlf hdg (fun H1 locs1 a1 a2 a3 => kk H1 locs1 ⟨a1, a2, a3⟩)
theorem rh_putN (X : rh_X p s m args c cc nL own Ts G tys L A) (h : rh_W G A s H locs w) {C : String} {T : u_T} {N ci : Nat} (hin : ∀ w ∈ u_ws C T N, w ∈ Ts) (ty0 : Nat → FieldType) (hty : ∀ k, k < N → parseFieldDescriptor (T k).2.2.1 = some (ty0 k)) (hnm : ∀ a, a < N → ∀ b, b < N → a ≠ b → (T a).2.1 ≠ (T b).2.1) (q0 k : Nat) {a : Nat} {fs : List Value} (he : w[q0]? = some (a, .inr (ci, fs))) (hc : vwCl[ci]? = some (C, T, N)) (hk : k < N) (hlk : Cond.fieldLinkNest own index (T k).1 (T k).2.1 (T k).2.2.1 host ∈ L) (hfin : (T k).2.2.2 = false) {v : Value} (hnv : narrow (ty0 k) v = v) (hfit : fits (ty0 k) v = true) (hlf : k < fs.length) (hdg : decode cc pc = .ok (.putfield index, 3))
    (kk : ∀ (H1 : Heap) (locs1 : List Loc), rh_W G A s H1 locs1 (w.set q0 (a, .inr (ci, fs.set k v))) → W p l e R s m args below meth c H1 locs1 cells slots Q (F0 m (pc + 3) ls rest)) : W p l e R s m args below meth c H locs cells slots Q (F0 m pc ls (v :: .ref a :: rest)) :=
  va_putN X.1 X.2.1 X.2.2.2.2.1 hin ty0 hty hnm X.2.2.2.1 X.2.2.2.2.2.1 h.1 h.2.1 h.2.2 q0 he hc k hk (va_Nw.use rfl (X.2.2.2.2.2.2.1.2 _ hlk)) (fun _ h9 => h9) hfin (hty k hk) hnv hfit hlf hdg (fun H1 locs1 a1 a2 a3 => kk H1 locs1 ⟨a1, a2, a3⟩)
/-- arrays of ints and of booleans -/
theorem rh_iald (X : rh_X p s m args c cc nL own Ts G tys L A) (h : rh_W G A s H locs w) (q0 t0 : Nat) {a : Nat} {cA : ClassId} {n : Nat} {f : Nat → Int32} (ha : w[q0]? = some (a, .inl (cA, n, .inl f))) (ht : tys[t0]? = some (cA, .int)) {i v : Int32} (hi : vp_in i n) (hv : v = f i.toNatClampNeg) (hdg : decode cc pc = .ok (.iaload, 1))
    (kk : W p l e R s m args below meth c H locs cells slots Q (F0 m (pc + 1) ls (.int v :: rest))) : W p l e R s m args below meth c H locs cells slots Q (F0 m pc ls (.int i :: .ref a :: rest)) := by
  subst hv
  exact va_iald X.1 X.2.1 X.2.2.2.2.2.1 h.1 q0 t0 ha ht hi hdg kk
theorem rh_zald (X : rh_X p s m args c cc nL own Ts G tys L A) (h : rh_W G A s H locs w) (q0 t0 : Nat) {a : Nat} {cA : ClassId} {n : Nat} {f : Nat → Int32} (ha : w[q0]? = some (a, .inl (cA, n, .inl f))) (ht : tys[t0]? = some (cA, .boolean)) {i v : Int32} (hi : vp_in i n) (hv : v = f i.toNatClampNeg) (hdg : decode cc pc = .ok (.baload, 1))
    (kk : W p l e R s m args below meth c H locs cells slots Q (F0 m (pc + 1) ls (.int v :: rest))) : W p l e R s m args below meth c H locs cells slots Q (F0 m pc ls (.int i :: .ref a :: rest)) := by
  subst hv
  exact va_zald X.1 X.2.1 X.2.2.2.2.2.1 h.1 q0 t0 ha ht hi hdg kk
theorem rh_iast (X : rh_X p s m args c cc nL own Ts G tys L A) (h : rh_W G A s H locs w) (q0 t0 : Nat) {a : Nat} {cA : ClassId} {n : Nat} {f : Nat → Int32} (ha : w[q0]? = some (a, .inl (cA, n, .inl f))) (ht : tys[t0]? = some (cA, .int)) {i x : Int32} (hi : vp_in i n) (hdg : decode cc pc = .ok (.iastore, 1))
    (kk : ∀ (H1 : Heap) (locs1 : List Loc), rh_W G A s H1 locs1 (w.set q0 (a, .inl (cA, n, .inl (upd f i.toNatClampNeg x)))) → W p l e R s m args below meth c H1 locs1 cells slots Q (F0 m (pc + 1) ls rest)) : W p l e R s m args below meth c H locs cells slots Q (F0 m pc ls (.int x :: .int i :: .ref a :: rest)) :=
  va_iast X.1 X.2.1 X.2.2.2.2.2.1 h.1 h.2.1 h.2.2 q0 t0 ha ht hi hdg (fun H1 locs1 a1 a2 a3 => kk H1 locs1 ⟨a1, a2, a3⟩)
theorem rh_zast (X : rh_X p s m args c cc nL own Ts G tys L A) (h : rh_W G A s H locs w) (q0 t0 : Nat) {a : Nat} {cA : ClassId} {n : Nat} {f : Nat → Int32} (ha : w[q0]? = some (a, .inl (cA, n, .inl f))) (ht : tys[t0]? = some (cA, .boolean)) {i x : Int32} (hi : vp_in i n) (hdg : decode cc pc = .ok (.bastore, 1))
    (kk : ∀ (H1 : Heap) (locs1 : List Loc), rh_W G A s H1 locs1 (w.set q0 (a, .inl (cA, n, .inl (upd f i.toNatClampNeg (vp_nar .boolean x))))) → W p l e R s m args below meth c H1 locs1 cells slots Q (F0 m (pc + 1) ls rest)) : W p l e R s m args below meth c H locs cells slots Q (F0 m pc ls (.int x :: .int i :: .ref a :: rest)) :=
  va_zast X.1 X.2.1 X.2.2.2.2.2.1 h.1 h.2.1 h.2.2 q0 t0 ha ht hi hdg (fun H1 locs1 a1 a2 a3 => kk H1 locs1 ⟨a1, a2, a3⟩)
theorem rh_alen (X : rh_X p s m args c cc nL own Ts G tys L A) (h : rh_W G A s H locs w) (q0 t0 : Nat) {a : Nat} {cA : ClassId} {n : Nat} {f : (Nat → Int32) ⊕ (Nat → Int64) ⊕ (Nat → UInt32) ⊕ (Nat → UInt64) ⊕ (Nat → Option Nat)} {ty : FieldType} (ha : w[q0]? = some (a, .inl (cA, n, f))) (ht : tys[t0]? = some (cA, ty)) (hdg : decode cc pc = .ok (.arraylength, 1))
    (kk : W p l e R s m args below meth c H locs cells slots Q (F0 m (pc + 1) ls (.int (nI n) :: rest))) : W p l e R s m args below meth c H locs cells slots Q (F0 m pc ls (.ref a :: rest)) :=
  va_alen X.1 X.2.1 X.2.2.2.2.2.1 h.1 q0 t0 ha ht rfl hdg kk
end RHC
/-- a contract out of a walk: the walk gets its return as a hypothesis -/
theorem rh_ofi {l : Launch} {y : MethodName} {ws ws' : List Cond} {rm : Room} {G : va_G} {tys : List (ClassId × FieldType)} {L : List Cond} {w w' : va_W} {av : List Value} {r : Int32} {cc : ByteArray} {maxL : Nat} {ty : FieldType} (hy : plainName y.cls = true) (hw : ws = Cond.code y cc maxL (some ty) :: ws') (hl : (lg_sl av).length ≤ maxL)
    (body : ∀ (p : Program) (e : Env) (s : State) (m : MethodId) (below : List Frame) (meth : Method) (c : Code) (A : Nat → Prop) (Q : State → Prop), rh_X p s m av.toArray c cc maxL y.cls ws G tys L A →
      (∀ (H : Heap) (locs : List Loc) (ls : Array Slot) (pc : Nat), narrow ty (.int r) = .int r → decode cc pc = .ok (.ireturn, 1) → rh_W G A s H locs w' → W p l e rm s m av.toArray below meth c H locs 0 0 Q (F0 m pc ls [.int r])) →
      ∀ (ls : Array Slot), lv_has ls maxL (lv_args 0 av) → rh_W G A s s.heap [] w → W p l e rm s m av.toArray below meth c s.heap [] 0 0 Q (F0 m 0 ls [])) : rh_Mi l y ws rm G tys L w av r w' := by
  intro sz
  refine Met.ofW (cc := cc) (maxL := maxL) (ret := some ty) hy hw ?_
  intro p e s m args below meth c s₁ B hml hv
  obtain ⟨rfl, hsz, hP, hK, hD0, hN⟩ := hv
  have hx := B.exec
  have hb := B.bytes
  have hr := B.returns
  have hts := atoms_spec (ws := ws) B.pre
  have hown : s.vm.findClass y.cls = some m.cls := findClass_of_methodNamed B.named
  have hlocks := B.notSynchronized
  subst hsz
  have hD := hD0.self (sz := s.heap.size)
  have hl9 := lv_entry av (n := maxL) hl
  rw [lg_entry_eq]
  refine body p e s m below meth c (va_A w s.heap.size) _ ⟨hx, hb, hml, hown, hts, hK, hN, fun q h => Or.inr h⟩ ?_ _ hl9 ⟨hP, hD, va_S.rf⟩
  intro H locs ls pc hn hd h
  exact W.zret (v := r) hx hb hr hn (fun t ht hW => ⟨⟨r, (), rfl, rfl, by rw [ht]; exact h.1, va_K.moved hW.alike hK, h.2.1⟩, h.2.2.F ht⟩) h.2.2.2.2 hd
theorem rh_ofv {l : Launch} {y : MethodName} {ws ws' : List Cond} {rm : Room} {G : va_G} {tys : List (ClassId × FieldType)} {L : List Cond} {w w' : va_W} {av : List Value} {cc : ByteArray} {maxL : Nat} (hy : plainName y.cls = true) (hw : ws = Cond.code y cc maxL none :: ws') (hl : (lg_sl av).length ≤ maxL)
    (body : ∀ (p : Program) (e : Env) (s : State) (m : MethodId) (below : List Frame) (meth : Method) (c : Code) (A : Nat → Prop) (Q : State → Prop), rh_X p s m av.toArray c cc maxL y.cls ws G tys L A →
      (∀ (H : Heap) (locs : List Loc) (ls : Array Slot) (pc : Nat), decode cc pc = .ok (.return_, 1) → rh_W G A s H locs w' → W p l e rm s m av.toArray below meth c H locs 0 0 Q (F0 m pc ls [])) →
      ∀ (ls : Array Slot), lv_has ls maxL (lv_args 0 av) → rh_W G A s s.heap [] w → W p l e rm s m av.toArray below meth c s.heap [] 0 0 Q (F0 m 0 ls [])) : rh_Mv l y ws rm G tys L w av w' := by
  intro sz
  refine Met.ofW (cc := cc) (maxL := maxL) (ret := none) hy hw ?_
  intro p e s m args below meth c s₁ B hml hv
  obtain ⟨rfl, hsz, hP, hK, hD0, hN⟩ := hv
  have hx := B.exec
  have hb := B.bytes
  have hr := B.returns
  have hts := atoms_spec (ws := ws) B.pre
  have hown : s.vm.findClass y.cls = some m.cls := findClass_of_methodNamed B.named
  have hlocks := B.notSynchronized
  subst hsz
  have hD := hD0.self (sz := s.heap.size)
  have hl9 := lv_entry av (n := maxL) hl
  rw [lg_entry_eq]
  refine body p e s m below meth c (va_A w s.heap.size) _ ⟨hx, hb, hml, hown, hts, hK, hN, fun q h => Or.inr h⟩ ?_ _ hl9 ⟨hP, hD, va_S.rf⟩
  intro H locs ls pc hd h
  exact W.vret hx hb hr (fun t ht hW => ⟨⟨(), rfl, trivial, by rw [ht]; exact h.1, va_K.moved hW.alike hK, h.2.1⟩, h.2.2.F ht⟩) h.2.2.2.2 hd
/-! pure words of the decompiled methods -/
/-- a read at place i of an array of n places, then k -/
def rd {β : Type} (f : Nat → Int32) (n : Nat) (i : Int32) (k : Int32 → Option β) : Option β := if 0 ≤ i.toInt ∧ i.toInt < n then k (f i.toNatClampNeg) else none
/-- a write: is the place in the array? -/
def wt {β : Type} (n : Nat) (i : Int32) (k : Option β) : Option β := if 0 ≤ i.toInt ∧ i.toInt < n then k else none
theorem rd_some {β : Type} {f : Nat → Int32} {n : Nat} {i : Int32} {k : Int32 → Option β} {x : β} (h : rd f n i k = some x) : vp_in i n ∧ ∃ v, v = f i.toNatClampNeg ∧ k v = some x := by
  unfold rd at h
  split at h
  · next hc => exact ⟨vp_in_iff.mpr hc, _, rfl, h⟩
  · cases h
theorem wt_some {β : Type} {n : Nat} {i : Int32} {k : Option β} {x : β} (h : wt n i k = some x) : vp_in i n ∧ k = some x := by
  unfold wt at h
  split at h
  · next hc => exact ⟨vp_in_iff.mpr hc, h⟩
  · cases h
theorem ob_some {α β : Type} {o : Option α} {k : α → Option β} {x : β} (h : o.bind k = some x) : ∃ a, o = some a ∧ k a = some x := by
  cases o with
  | none => cases h
  | some a => exact ⟨a, rfl, h⟩
theorem ite_p {α : Type} {c : Prop} [Decidable c] {a b x : α} (h : c) (e : (if c then a else b) = x) : a = x := by rwa [if_pos h] at e
theorem ite_n {α : Type} {c : Prop} [Decidable c] {a b x : α} (h : ¬ c) (e : (if c then a else b) = x) : b = x := by rwa [if_neg h] at e
/-- a row of the arrays becomes r -/
def ur (g : Nat → Nat → Int32) (a : Nat) (r : Nat → Int32) : Nat → Nat → Int32 := fun b => if b = a then r else g b
/-- calls, by what comes back -/
def bR {β : Type} (o : Option Int32) (k : Int32 → Option β) : Option β := o.bind k
def bWv {β : Type} (o : Option ((Nat → Int32) × (Nat → Nat → Int32))) (k : (Nat → Int32) → (Nat → Nat → Int32) → Option β) : Option β := o.bind fun q => k q.1 q.2
def bWi {β : Type} (o : Option (Int32 × (Nat → Int32) × (Nat → Nat → Int32))) (k : Int32 → (Nat → Int32) → (Nat → Nat → Int32) → Option β) : Option β := o.bind fun q => k q.1 q.2.1 q.2.2
def bFv {β : Type} (o : Option ((Nat → Nat) × (Nat → Int32) × (Nat → Nat → Int32))) (k : (Nat → Nat) → (Nat → Int32) → (Nat → Nat → Int32) → Option β) : Option β := o.bind fun q => k q.1 q.2.1 q.2.2
def bFi {β : Type} (o : Option (Int32 × (Nat → Nat) × (Nat → Int32) × (Nat → Nat → Int32))) (k : Int32 → (Nat → Nat) → (Nat → Int32) → (Nat → Nat → Int32) → Option β) : Option β := o.bind fun q => k q.1 q.2.1 q.2.2.1 q.2.2.2
theorem bR_some {β : Type} {o : Option Int32} {k : Int32 → Option β} {x : β} (h : bR o k = some x) : ∃ r, o = some r ∧ k r = some x := ob_some h
theorem bWv_some {β : Type} {o : Option ((Nat → Int32) × (Nat → Nat → Int32))} {k : (Nat → Int32) → (Nat → Nat → Int32) → Option β} {x : β} (h : bWv o k = some x) : ∃ f g, o = some (f, g) ∧ k f g = some x := by
  obtain ⟨⟨f, g⟩, h1, h2⟩ := ob_some h
  exact ⟨f, g, h1, h2⟩
theorem bWi_some {β : Type} {o : Option (Int32 × (Nat → Int32) × (Nat → Nat → Int32))} {k : Int32 → (Nat → Int32) → (Nat → Nat → Int32) → Option β} {x : β} (h : bWi o k = some x) : ∃ r f g, o = some (r, f, g) ∧ k r f g = some x := by
  obtain ⟨⟨r, f, g⟩, h1, h2⟩ := ob_some h
  exact ⟨r, f, g, h1, h2⟩
theorem bFv_some {β : Type} {o : Option ((Nat → Nat) × (Nat → Int32) × (Nat → Nat → Int32))} {k : (Nat → Nat) → (Nat → Int32) → (Nat → Nat → Int32) → Option β} {x : β} (h : bFv o k = some x) : ∃ a f g, o = some (a, f, g) ∧ k a f g = some x := by
  obtain ⟨⟨a, f, g⟩, h1, h2⟩ := ob_some h
  exact ⟨a, f, g, h1, h2⟩
theorem bFi_some {β : Type} {o : Option (Int32 × (Nat → Nat) × (Nat → Int32) × (Nat → Nat → Int32))} {k : Int32 → (Nat → Nat) → (Nat → Int32) → (Nat → Nat → Int32) → Option β} {x : β} (h : bFi o k = some x) : ∃ r a f g, o = some (r, a, f, g) ∧ k r a f g = some x := by
  obtain ⟨⟨r, a, f, g⟩, h1, h2⟩ := ob_some h
  exact ⟨r, a, f, g, h1, h2⟩
/-! the worlds: the class's (current and other space by name), the reference's -/
abbrev cwx (cyI cyZ : ClassId) (n x : Nat) (ad : Nat → Nat) (cu ot : Nat) (f : Nat → Int32) (g : Nat → Nat → Int32) : va_W := [(x, .inr (2, [.int (f 0), .int (f 1), .ref (ad 4), .ref (ad 5), .ref (ad 1), .ref cu, .ref ot, .int (f 2), .int (f 3), .int (f 4), .int (f 5), .int (f 6), .int (f 7), .int (f 8), .int (f 9)])), (ad 1, .inr (0, [.ref (ad 6), .ref (ad 7), .int (f 10), .int (f 11)])), (ad 2, .inr (1, [.int (f 12), .ref (ad 8), .ref (ad 9), .ref (ad 10), .int (f 13)])), (ad 3, .inr (1, [.int (f 14), .ref (ad 11), .ref (ad 12), .ref (ad 13), .int (f 15)])), (ad 4, .inl (cyZ, 16, .inl (g 0))), (ad 5, .inl (cyI, 16, .inl (g 1))), (ad 6, .inl (cyI, 512, .inl (g 2))), (ad 7, .inl (cyI, 512, .inl (g 3))), (ad 8, .inl (cyI, n, .inl (g 4))), (ad 9, .inl (cyI, n, .inl (g 5))), (ad 10, .inl (cyI, n, .inl (g 6))), (ad 11, .inl (cyI, n, .inl (g 7))), (ad 12, .inl (cyI, n, .inl (g 8))), (ad 13, .inl (cyI, n, .inl (g 9)))]
abbrev cw (cyI cyZ : ClassId) (n x : Nat) (ad : Nat → Nat) (f : Nat → Int32) (g : Nat → Nat → Int32) : va_W := cwx cyI cyZ n x ad (ad 2) (ad 3) f g
abbrev mw (cyI cyZ : ClassId) (x : Nat) (ad : Nat → Nat) (f : Nat → Int32) (g : Nat → Nat → Int32) : va_W := [(x, .inr (3, [.int (f 0), .int (f 1), .int (f 2), .ref (ad 1), .ref (ad 2), .ref (ad 3), .ref (ad 4), .int (f 3), .ref (ad 5), .ref (ad 6), .int (f 4), .int (f 5), .int (f 6), .int (f 7), .ref (ad 7), .ref (ad 8), .int (f 8), .int (f 9), .int (f 10), .int (f 11), .int (f 12), .int (f 13)])), (ad 1, .inl (cyI, 800, .inl (g 0))), (ad 2, .inl (cyI, 800, .inl (g 1))), (ad 3, .inl (cyI, 800, .inl (g 2))), (ad 4, .inl (cyI, 2, .inl (g 3))), (ad 5, .inl (cyZ, 16, .inl (g 4))), (ad 6, .inl (cyI, 16, .inl (g 5))), (ad 7, .inl (cyI, 4096, .inl (g 6))), (ad 8, .inl (cyI, 4096, .inl (g 7)))]
/-! the two spaces change their parts -/
def swA (ad : Nat → Nat) : Nat → Nat := fun k => ad (match k with | 2 => 3 | 3 => 2 | 8 => 11 | 9 => 12 | 10 => 13 | 11 => 8 | 12 => 9 | 13 => 10 | k => k)
def swF (f : Nat → Int32) : Nat → Int32 := fun k => f (match k with | 12 => 14 | 13 => 15 | 14 => 12 | 15 => 13 | k => k)
def swG (g : Nat → Nat → Int32) : Nat → Nat → Int32 := fun k => g (match k with | 4 => 7 | 5 => 8 | 6 => 9 | 7 => 4 | 8 => 5 | 9 => 6 | k => k)
theorem rh_swap {G : va_G} {A : Nat → Prop} {s : State} {H : Heap} {locs : List Loc} {cyI cyZ : ClassId} {n x : Nat} {ad : Nat → Nat} {f : Nat → Int32} {g : Nat → Nat → Int32} (h : rh_W G A s H locs (cwx cyI cyZ n x ad (ad 3) (ad 2) f g)) : rh_W G A s H locs (cw cyI cyZ n x (swA ad) (swF f) (swG g)) :=
  ⟨h.1.sub [0, 1, 3, 2, 4, 5, 6, 7, 11, 12, 13, 8, 9, 10] rfl, h.2.1.sub [0, 1, 3, 2, 4, 5, 6, 7, 11, 12, 13, 8, 9, 10] (by decide) rfl, h.2.2⟩
/-- how often a loop of 'work' goes round, at most -/
def wF : Nat := 100000
/-- a number gets a name -/
def lt {β : Type} (e : Int32) (k : Int32 → Option β) : Option β := k e
theorem lt_some {β : Type} {e : Int32} {k : Int32 → Option β} {x : β} (h : lt e k = some x) : ∃ z, z = e ∧ k z = some x := ⟨e, rfl, h⟩
theorem rh_top {p : Program} {l : Launch} {e : Env} {R : Room} {s : State} {m : MethodId} {args : Array Value} {below : List Frame} {meth : Method} {c : Code} {H : Heap} {locs : List Loc} {cells slots : Nat} {Q : State → Prop} {pc : Nat} {ls : Array Slot} {rest : List Value} {z x : Int32} (hz : z = x) (k : W p l e R s m args below meth c H locs cells slots Q (F0 m pc ls (.int z :: rest))) : W p l e R s m args below meth c H locs cells slots Q (F0 m pc ls (.int x :: rest)) := by
  subst hz
  exact k
/-! a field, a row of the world becomes another -/
theorem cp_0 {G : va_G} {A : Nat → Prop} {s : State} {H : Heap} {locs : List Loc} {cyI cyZ : ClassId} {n x : Nat} {ad : Nat → Nat} {cu ot : Nat} {f : Nat → Int32} {g : Nat → Nat → Int32} {v : Int32} (h : rh_W G A s H locs ((cwx cyI cyZ n x ad cu ot f g).set 0 (x, .inr (2, [.int v, .int (f 1), .ref (ad 4), .ref (ad 5), .ref (ad 1), .ref cu, .ref ot, .int (f 2), .int (f 3), .int (f 4), .int (f 5), .int (f 6), .int (f 7), .int (f 8), .int (f 9)])))) : rh_W G A s H locs (cwx cyI cyZ n x ad cu ot (upd f 0 v) g) := h
theorem cp_1 {G : va_G} {A : Nat → Prop} {s : State} {H : Heap} {locs : List Loc} {cyI cyZ : ClassId} {n x : Nat} {ad : Nat → Nat} {cu ot : Nat} {f : Nat → Int32} {g : Nat → Nat → Int32} {v : Int32} (h : rh_W G A s H locs ((cwx cyI cyZ n x ad cu ot f g).set 0 (x, .inr (2, [.int (f 0), .int v, .ref (ad 4), .ref (ad 5), .ref (ad 1), .ref cu, .ref ot, .int (f 2), .int (f 3), .int (f 4), .int (f 5), .int (f 6), .int (f 7), .int (f 8), .int (f 9)])))) : rh_W G A s H locs (cwx cyI cyZ n x ad cu ot (upd f 1 v) g) := h
theorem cp_2 {G : va_G} {A : Nat → Prop} {s : State} {H : Heap} {locs : List Loc} {cyI cyZ : ClassId} {n x : Nat} {ad : Nat → Nat} {cu ot : Nat} {f : Nat → Int32} {g : Nat → Nat → Int32} {v : Int32} (h : rh_W G A s H locs ((cwx cyI cyZ n x ad cu ot f g).set 0 (x, .inr (2, [.int (f 0), .int (f 1), .ref (ad 4), .ref (ad 5), .ref (ad 1), .ref cu, .ref ot, .int v, .int (f 3), .int (f 4), .int (f 5), .int (f 6), .int (f 7), .int (f 8), .int (f 9)])))) : rh_W G A s H locs (cwx cyI cyZ n x ad cu ot (upd f 2 v) g) := h
theorem cp_3 {G : va_G} {A : Nat → Prop} {s : State} {H : Heap} {locs : List Loc} {cyI cyZ : ClassId} {n x : Nat} {ad : Nat → Nat} {cu ot : Nat} {f : Nat → Int32} {g : Nat → Nat → Int32} {v : Int32} (h : rh_W G A s H locs ((cwx cyI cyZ n x ad cu ot f g).set 0 (x, .inr (2, [.int (f 0), .int (f 1), .ref (ad 4), .ref (ad 5), .ref (ad 1), .ref cu, .ref ot, .int (f 2), .int v, .int (f 4), .int (f 5), .int (f 6), .int (f 7), .int (f 8), .int (f 9)])))) : rh_W G A s H locs (cwx cyI cyZ n x ad cu ot (upd f 3 v) g) := h
theorem cp_4 {G : va_G} {A : Nat → Prop} {s : State} {H : Heap} {locs : List Loc} {cyI cyZ : ClassId} {n x : Nat} {ad : Nat → Nat} {cu ot : Nat} {f : Nat → Int32} {g : Nat → Nat → Int32} {v : Int32} (h : rh_W G A s H locs ((cwx cyI cyZ n x ad cu ot f g).set 0 (x, .inr (2, [.int (f 0), .int (f 1), .ref (ad 4), .ref (ad 5), .ref (ad 1), .ref cu, .ref ot, .int (f 2), .int (f 3), .int v, .int (f 5), .int (f 6), .int (f 7), .int (f 8), .int (f 9)])))) : rh_W G A s H locs (cwx cyI cyZ n x ad cu ot (upd f 4 v) g) := h
theorem cp_5 {G : va_G} {A : Nat → Prop} {s : State} {H : Heap} {locs : List Loc} {cyI cyZ : ClassId} {n x : Nat} {ad : Nat → Nat} {cu ot : Nat} {f : Nat → Int32} {g : Nat → Nat → Int32} {v : Int32} (h : rh_W G A s H locs ((cwx cyI cyZ n x ad cu ot f g).set 0 (x, .inr (2, [.int (f 0), .int (f 1), .ref (ad 4), .ref (ad 5), .ref (ad 1), .ref cu, .ref ot, .int (f 2), .int (f 3), .int (f 4), .int v, .int (f 6), .int (f 7), .int (f 8), .int (f 9)])))) : rh_W G A s H locs (cwx cyI cyZ n x ad cu ot (upd f 5 v) g) := h
theorem cp_6 {G : va_G} {A : Nat → Prop} {s : State} {H : Heap} {locs : List Loc} {cyI cyZ : ClassId} {n x : Nat} {ad : Nat → Nat} {cu ot : Nat} {f : Nat → Int32} {g : Nat → Nat → Int32} {v : Int32} (h : rh_W G A s H locs ((cwx cyI cyZ n x ad cu ot f g).set 0 (x, .inr (2, [.int (f 0), .int (f 1), .ref (ad 4), .ref (ad 5), .ref (ad 1), .ref cu, .ref ot, .int (f 2), .int (f 3), .int (f 4), .int (f 5), .int v, .int (f 7), .int (f 8), .int (f 9)])))) : rh_W G A s H locs (cwx cyI cyZ n x ad cu ot (upd f 6 v) g) := h
theorem cp_7 {G : va_G} {A : Nat → Prop} {s : State} {H : Heap} {locs : List Loc} {cyI cyZ : ClassId} {n x : Nat} {ad : Nat → Nat} {cu ot : Nat} {f : Nat → Int32} {g : Nat → Nat → Int32} {v : Int32} (h : rh_W G A s H locs ((cwx cyI cyZ n x ad cu ot f g).set 0 (x, .inr (2, [.int (f 0), .int (f 1), .ref (ad 4), .ref (ad 5), .ref (ad 1), .ref cu, .ref ot, .int (f 2), .int (f 3), .int (f 4), .int (f 5), .int (f 6), .int v, .int (f 8), .int (f 9)])))) : rh_W G A s H locs (cwx cyI cyZ n x ad cu ot (upd f 7 v) g) := h
theorem cp_8 {G : va_G} {A : Nat → Prop} {s : State} {H : Heap} {locs : List Loc} {cyI cyZ : ClassId} {n x : Nat} {ad : Nat → Nat} {cu ot : Nat} {f : Nat → Int32} {g : Nat → Nat → Int32} {v : Int32} (h : rh_W G A s H locs ((cwx cyI cyZ n x ad cu ot f g).set 0 (x, .inr (2, [.int (f 0), .int (f 1), .ref (ad 4), .ref (ad 5), .ref (ad 1), .ref cu, .ref ot, .int (f 2), .int (f 3), .int (f 4), .int (f 5), .int (f 6), .int (f 7), .int v, .int (f 9)])))) : rh_W G A s H locs (cwx cyI cyZ n x ad cu ot (upd f 8 v) g) := h
theorem cp_9 {G : va_G} {A : Nat → Prop} {s : State} {H : Heap} {locs : List Loc} {cyI cyZ : ClassId} {n x : Nat} {ad : Nat → Nat} {cu ot : Nat} {f : Nat → Int32} {g : Nat → Nat → Int32} {v : Int32} (h : rh_W G A s H locs ((cwx cyI cyZ n x ad cu ot f g).set 0 (x, .inr (2, [.int (f 0), .int (f 1), .ref (ad 4), .ref (ad 5), .ref (ad 1), .ref cu, .ref ot, .int (f 2), .int (f 3), .int (f 4), .int (f 5), .int (f 6), .int (f 7), .int (f 8), .int v])))) : rh_W G A s H locs (cwx cyI cyZ n x ad cu ot (upd f 9 v) g) := h
theorem cp_10 {G : va_G} {A : Nat → Prop} {s : State} {H : Heap} {locs : List Loc} {cyI cyZ : ClassId} {n x : Nat} {ad : Nat → Nat} {cu ot : Nat} {f : Nat → Int32} {g : Nat → Nat → Int32} {v : Int32} (h : rh_W G A s H locs ((cwx cyI cyZ n x ad cu ot f g).set 1 (ad 1, .inr (0, [.ref (ad 6), .ref (ad 7), .int v, .int (f 11)])))) : rh_W G A s H locs (cwx cyI cyZ n x ad cu ot (upd f 10 v) g) := h
theorem cp_11 {G : va_G} {A : Nat → Prop} {s : State} {H : Heap} {locs : List Loc} {cyI cyZ : ClassId} {n x : Nat} {ad : Nat → Nat} {cu ot : Nat} {f : Nat → Int32} {g : Nat → Nat → Int32} {v : Int32} (h : rh_W G A s H locs ((cwx cyI cyZ n x ad cu ot f g).set 1 (ad 1, .inr (0, [.ref (ad 6), .ref (ad 7), .int (f 10), .int v])))) : rh_W G A s H locs (cwx cyI cyZ n x ad cu ot (upd f 11 v) g) := h
theorem cp_12 {G : va_G} {A : Nat → Prop} {s : State} {H : Heap} {locs : List Loc} {cyI cyZ : ClassId} {n x : Nat} {ad : Nat → Nat} {cu ot : Nat} {f : Nat → Int32} {g : Nat → Nat → Int32} {v : Int32} (h : rh_W G A s H locs ((cwx cyI cyZ n x ad cu ot f g).set 2 (ad 2, .inr (1, [.int v, .ref (ad 8), .ref (ad 9), .ref (ad 10), .int (f 13)])))) : rh_W G A s H locs (cwx cyI cyZ n x ad cu ot (upd f 12 v) g) := h
theorem cp_13 {G : va_G} {A : Nat → Prop} {s : State} {H : Heap} {locs : List Loc} {cyI cyZ : ClassId} {n x : Nat} {ad : Nat → Nat} {cu ot : Nat} {f : Nat → Int32} {g : Nat → Nat → Int32} {v : Int32} (h : rh_W G A s H locs ((cwx cyI cyZ n x ad cu ot f g).set 2 (ad 2, .inr (1, [.int (f 12), .ref (ad 8), .ref (ad 9), .ref (ad 10), .int v])))) : rh_W G A s H locs (cwx cyI cyZ n x ad cu ot (upd f 13 v) g) := h
theorem cp_14 {G : va_G} {A : Nat → Prop} {s : State} {H : Heap} {locs : List Loc} {cyI cyZ : ClassId} {n x : Nat} {ad : Nat → Nat} {cu ot : Nat} {f : Nat → Int32} {g : Nat → Nat → Int32} {v : Int32} (h : rh_W G A s H locs ((cwx cyI cyZ n x ad cu ot f g).set 3 (ad 3, .inr (1, [.int v, .ref (ad 11), .ref (ad 12), .ref (ad 13), .int (f 15)])))) : rh_W G A s H locs (cwx cyI cyZ n x ad cu ot (upd f 14 v) g) := h
theorem cp_15 {G : va_G} {A : Nat → Prop} {s : State} {H : Heap} {locs : List Loc} {cyI cyZ : ClassId} {n x : Nat} {ad : Nat → Nat} {cu ot : Nat} {f : Nat → Int32} {g : Nat → Nat → Int32} {v : Int32} (h : rh_W G A s H locs ((cwx cyI cyZ n x ad cu ot f g).set 3 (ad 3, .inr (1, [.int (f 14), .ref (ad 11), .ref (ad 12), .ref (ad 13), .int v])))) : rh_W G A s H locs (cwx cyI cyZ n x ad cu ot (upd f 15 v) g) := h
theorem cr_0 {G : va_G} {A : Nat → Prop} {s : State} {H : Heap} {locs : List Loc} {cyI cyZ : ClassId} {n x : Nat} {ad : Nat → Nat} {cu ot : Nat} {f : Nat → Int32} {g : Nat → Nat → Int32} {r : Nat → Int32} (h : rh_W G A s H locs ((cwx cyI cyZ n x ad cu ot f g).set 4 (ad 4, .inl (cyZ, 16, .inl r)))) : rh_W G A s H locs (cwx cyI cyZ n x ad cu ot f (ur g 0 r)) := h
theorem cr_1 {G : va_G} {A : Nat → Prop} {s : State} {H : Heap} {locs : List Loc} {cyI cyZ : ClassId} {n x : Nat} {ad : Nat → Nat} {cu ot : Nat} {f : Nat → Int32} {g : Nat → Nat → Int32} {r : Nat → Int32} (h : rh_W G A s H locs ((cwx cyI cyZ n x ad cu ot f g).set 5 (ad 5, .inl (cyI, 16, .inl r)))) : rh_W G A s H locs (cwx cyI cyZ n x ad cu ot f (ur g 1 r)) := h
theorem cr_2 {G : va_G} {A : Nat → Prop} {s : State} {H : Heap} {locs : List Loc} {cyI cyZ : ClassId} {n x : Nat} {ad : Nat → Nat} {cu ot : Nat} {f : Nat → Int32} {g : Nat → Nat → Int32} {r : Nat → Int32} (h : rh_W G A s H locs ((cwx cyI cyZ n x ad cu ot f g).set 6 (ad 6, .inl (cyI, 512, .inl r)))) : rh_W G A s H locs (cwx cyI cyZ n x ad cu ot f (ur g 2 r)) := h
theorem cr_3 {G : va_G} {A : Nat → Prop} {s : State} {H : Heap} {locs : List Loc} {cyI cyZ : ClassId} {n x : Nat} {ad : Nat → Nat} {cu ot : Nat} {f : Nat → Int32} {g : Nat → Nat → Int32} {r : Nat → Int32} (h : rh_W G A s H locs ((cwx cyI cyZ n x ad cu ot f g).set 7 (ad 7, .inl (cyI, 512, .inl r)))) : rh_W G A s H locs (cwx cyI cyZ n x ad cu ot f (ur g 3 r)) := h
theorem cr_4 {G : va_G} {A : Nat → Prop} {s : State} {H : Heap} {locs : List Loc} {cyI cyZ : ClassId} {n x : Nat} {ad : Nat → Nat} {cu ot : Nat} {f : Nat → Int32} {g : Nat → Nat → Int32} {r : Nat → Int32} (h : rh_W G A s H locs ((cwx cyI cyZ n x ad cu ot f g).set 8 (ad 8, .inl (cyI, n, .inl r)))) : rh_W G A s H locs (cwx cyI cyZ n x ad cu ot f (ur g 4 r)) := h
theorem cr_5 {G : va_G} {A : Nat → Prop} {s : State} {H : Heap} {locs : List Loc} {cyI cyZ : ClassId} {n x : Nat} {ad : Nat → Nat} {cu ot : Nat} {f : Nat → Int32} {g : Nat → Nat → Int32} {r : Nat → Int32} (h : rh_W G A s H locs ((cwx cyI cyZ n x ad cu ot f g).set 9 (ad 9, .inl (cyI, n, .inl r)))) : rh_W G A s H locs (cwx cyI cyZ n x ad cu ot f (ur g 5 r)) := h
theorem cr_6 {G : va_G} {A : Nat → Prop} {s : State} {H : Heap} {locs : List Loc} {cyI cyZ : ClassId} {n x : Nat} {ad : Nat → Nat} {cu ot : Nat} {f : Nat → Int32} {g : Nat → Nat → Int32} {r : Nat → Int32} (h : rh_W G A s H locs ((cwx cyI cyZ n x ad cu ot f g).set 10 (ad 10, .inl (cyI, n, .inl r)))) : rh_W G A s H locs (cwx cyI cyZ n x ad cu ot f (ur g 6 r)) := h
theorem cr_7 {G : va_G} {A : Nat → Prop} {s : State} {H : Heap} {locs : List Loc} {cyI cyZ : ClassId} {n x : Nat} {ad : Nat → Nat} {cu ot : Nat} {f : Nat → Int32} {g : Nat → Nat → Int32} {r : Nat → Int32} (h : rh_W G A s H locs ((cwx cyI cyZ n x ad cu ot f g).set 11 (ad 11, .inl (cyI, n, .inl r)))) : rh_W G A s H locs (cwx cyI cyZ n x ad cu ot f (ur g 7 r)) := h
theorem cr_8 {G : va_G} {A : Nat → Prop} {s : State} {H : Heap} {locs : List Loc} {cyI cyZ : ClassId} {n x : Nat} {ad : Nat → Nat} {cu ot : Nat} {f : Nat → Int32} {g : Nat → Nat → Int32} {r : Nat → Int32} (h : rh_W G A s H locs ((cwx cyI cyZ n x ad cu ot f g).set 12 (ad 12, .inl (cyI, n, .inl r)))) : rh_W G A s H locs (cwx cyI cyZ n x ad cu ot f (ur g 8 r)) := h
theorem cr_9 {G : va_G} {A : Nat → Prop} {s : State} {H : Heap} {locs : List Loc} {cyI cyZ : ClassId} {n x : Nat} {ad : Nat → Nat} {cu ot : Nat} {f : Nat → Int32} {g : Nat → Nat → Int32} {r : Nat → Int32} (h : rh_W G A s H locs ((cwx cyI cyZ n x ad cu ot f g).set 13 (ad 13, .inl (cyI, n, .inl r)))) : rh_W G A s H locs (cwx cyI cyZ n x ad cu ot f (ur g 9 r)) := h
theorem mp_0 {G : va_G} {A : Nat → Prop} {s : State} {H : Heap} {locs : List Loc} {cyI cyZ : ClassId} {x : Nat} {ad : Nat → Nat} {f : Nat → Int32} {g : Nat → Nat → Int32} {v : Int32} (h : rh_W G A s H locs ((mw cyI cyZ x ad f g).set 0 (x, .inr (3, [.int v, .int (f 1), .int (f 2), .ref (ad 1), .ref (ad 2), .ref (ad 3), .ref (ad 4), .int (f 3), .ref (ad 5), .ref (ad 6), .int (f 4), .int (f 5), .int (f 6), .int (f 7), .ref (ad 7), .ref (ad 8), .int (f 8), .int (f 9), .int (f 10), .int (f 11), .int (f 12), .int (f 13)])))) : rh_W G A s H locs (mw cyI cyZ x ad (upd f 0 v) g) := h
theorem mp_1 {G : va_G} {A : Nat → Prop} {s : State} {H : Heap} {locs : List Loc} {cyI cyZ : ClassId} {x : Nat} {ad : Nat → Nat} {f : Nat → Int32} {g : Nat → Nat → Int32} {v : Int32} (h : rh_W G A s H locs ((mw cyI cyZ x ad f g).set 0 (x, .inr (3, [.int (f 0), .int v, .int (f 2), .ref (ad 1), .ref (ad 2), .ref (ad 3), .ref (ad 4), .int (f 3), .ref (ad 5), .ref (ad 6), .int (f 4), .int (f 5), .int (f 6), .int (f 7), .ref (ad 7), .ref (ad 8), .int (f 8), .int (f 9), .int (f 10), .int (f 11), .int (f 12), .int (f 13)])))) : rh_W G A s H locs (mw cyI cyZ x ad (upd f 1 v) g) := h
theorem mp_2 {G : va_G} {A : Nat → Prop} {s : State} {H : Heap} {locs : List Loc} {cyI cyZ : ClassId} {x : Nat} {ad : Nat → Nat} {f : Nat → Int32} {g : Nat → Nat → Int32} {v : Int32} (h : rh_W G A s H locs ((mw cyI cyZ x ad f g).set 0 (x, .inr (3, [.int (f 0), .int (f 1), .int v, .ref (ad 1), .ref (ad 2), .ref (ad 3), .ref (ad 4), .int (f 3), .ref (ad 5), .ref (ad 6), .int (f 4), .int (f 5), .int (f 6), .int (f 7), .ref (ad 7), .ref (ad 8), .int (f 8), .int (f 9), .int (f 10), .int (f 11), .int (f 12), .int (f 13)])))) : rh_W G A s H locs (mw cyI cyZ x ad (upd f 2 v) g) := h
theorem mp_3 {G : va_G} {A : Nat → Prop} {s : State} {H : Heap} {locs : List Loc} {cyI cyZ : ClassId} {x : Nat} {ad : Nat → Nat} {f : Nat → Int32} {g : Nat → Nat → Int32} {v : Int32} (h : rh_W G A s H locs ((mw cyI cyZ x ad f g).set 0 (x, .inr (3, [.int (f 0), .int (f 1), .int (f 2), .ref (ad 1), .ref (ad 2), .ref (ad 3), .ref (ad 4), .int v, .ref (ad 5), .ref (ad 6), .int (f 4), .int (f 5), .int (f 6), .int (f 7), .ref (ad 7), .ref (ad 8), .int (f 8), .int (f 9), .int (f 10), .int (f 11), .int (f 12), .int (f 13)])))) : rh_W G A s H locs (mw cyI cyZ x ad (upd f 3 v) g) := h
theorem mp_4 {G : va_G} {A : Nat → Prop} {s : State} {H : Heap} {locs : List Loc} {cyI cyZ : ClassId} {x : Nat} {ad : Nat → Nat} {f : Nat → Int32} {g : Nat → Nat → Int32} {v : Int32} (h : rh_W G A s H locs ((mw cyI cyZ x ad f g).set 0 (x, .inr (3, [.int (f 0), .int (f 1), .int (f 2), .ref (ad 1), .ref (ad 2), .ref (ad 3), .ref (ad 4), .int (f 3), .ref (ad 5), .ref (ad 6), .int v, .int (f 5), .int (f 6), .int (f 7), .ref (ad 7), .ref (ad 8), .int (f 8), .int (f 9), .int (f 10), .int (f 11), .int (f 12), .int (f 13)])))) : rh_W G A s H locs (mw cyI cyZ x ad (upd f 4 v) g) := h
theorem mp_5 {G : va_G} {A : Nat → Prop} {s : State} {H : Heap} {locs : List Loc} {cyI cyZ : ClassId} {x : Nat} {ad : Nat → Nat} {f : Nat → Int32} {g : Nat → Nat → Int32} {v : Int32} (h : rh_W G A s H locs ((mw cyI cyZ x ad f g).set 0 (x, .inr (3, [.int (f 0), .int (f 1), .int (f 2), .ref (ad 1), .ref (ad 2), .ref (ad 3), .ref (ad 4), .int (f 3), .ref (ad 5), .ref (ad 6), .int (f 4), .int v, .int (f 6), .int (f 7), .ref (ad 7), .ref (ad 8), .int (f 8), .int (f 9), .int (f 10), .int (f 11), .int (f 12), .int (f 13)])))) : rh_W G A s H locs (mw cyI cyZ x ad (upd f 5 v) g) := h
theorem mp_6 {G : va_G} {A : Nat → Prop} {s : State} {H : Heap} {locs : List Loc} {cyI cyZ : ClassId} {x : Nat} {ad : Nat → Nat} {f : Nat → Int32} {g : Nat → Nat → Int32} {v : Int32} (h : rh_W G A s H locs ((mw cyI cyZ x ad f g).set 0 (x, .inr (3, [.int (f 0), .int (f 1), .int (f 2), .ref (ad 1), .ref (ad 2), .ref (ad 3), .ref (ad 4), .int (f 3), .ref (ad 5), .ref (ad 6), .int (f 4), .int (f 5), .int v, .int (f 7), .ref (ad 7), .ref (ad 8), .int (f 8), .int (f 9), .int (f 10), .int (f 11), .int (f 12), .int (f 13)])))) : rh_W G A s H locs (mw cyI cyZ x ad (upd f 6 v) g) := h
theorem mp_7 {G : va_G} {A : Nat → Prop} {s : State} {H : Heap} {locs : List Loc} {cyI cyZ : ClassId} {x : Nat} {ad : Nat → Nat} {f : Nat → Int32} {g : Nat → Nat → Int32} {v : Int32} (h : rh_W G A s H locs ((mw cyI cyZ x ad f g).set 0 (x, .inr (3, [.int (f 0), .int (f 1), .int (f 2), .ref (ad 1), .ref (ad 2), .ref (ad 3), .ref (ad 4), .int (f 3), .ref (ad 5), .ref (ad 6), .int (f 4), .int (f 5), .int (f 6), .int v, .ref (ad 7), .ref (ad 8), .int (f 8), .int (f 9), .int (f 10), .int (f 11), .int (f 12), .int (f 13)])))) : rh_W G A s H locs (mw cyI cyZ x ad (upd f 7 v) g) := h
theorem mp_8 {G : va_G} {A : Nat → Prop} {s : State} {H : Heap} {locs : List Loc} {cyI cyZ : ClassId} {x : Nat} {ad : Nat → Nat} {f : Nat → Int32} {g : Nat → Nat → Int32} {v : Int32} (h : rh_W G A s H locs ((mw cyI cyZ x ad f g).set 0 (x, .inr (3, [.int (f 0), .int (f 1), .int (f 2), .ref (ad 1), .ref (ad 2), .ref (ad 3), .ref (ad 4), .int (f 3), .ref (ad 5), .ref (ad 6), .int (f 4), .int (f 5), .int (f 6), .int (f 7), .ref (ad 7), .ref (ad 8), .int v, .int (f 9), .int (f 10), .int (f 11), .int (f 12), .int (f 13)])))) : rh_W G A s H locs (mw cyI cyZ x ad (upd f 8 v) g) := h
theorem mp_9 {G : va_G} {A : Nat → Prop} {s : State} {H : Heap} {locs : List Loc} {cyI cyZ : ClassId} {x : Nat} {ad : Nat → Nat} {f : Nat → Int32} {g : Nat → Nat → Int32} {v : Int32} (h : rh_W G A s H locs ((mw cyI cyZ x ad f g).set 0 (x, .inr (3, [.int (f 0), .int (f 1), .int (f 2), .ref (ad 1), .ref (ad 2), .ref (ad 3), .ref (ad 4), .int (f 3), .ref (ad 5), .ref (ad 6), .int (f 4), .int (f 5), .int (f 6), .int (f 7), .ref (ad 7), .ref (ad 8), .int (f 8), .int v, .int (f 10), .int (f 11), .int (f 12), .int (f 13)])))) : rh_W G A s H locs (mw cyI cyZ x ad (upd f 9 v) g) := h
theorem mp_10 {G : va_G} {A : Nat → Prop} {s : State} {H : Heap} {locs : List Loc} {cyI cyZ : ClassId} {x : Nat} {ad : Nat → Nat} {f : Nat → Int32} {g : Nat → Nat → Int32} {v : Int32} (h : rh_W G A s H locs ((mw cyI cyZ x ad f g).set 0 (x, .inr (3, [.int (f 0), .int (f 1), .int (f 2), .ref (ad 1), .ref (ad 2), .ref (ad 3), .ref (ad 4), .int (f 3), .ref (ad 5), .ref (ad 6), .int (f 4), .int (f 5), .int (f 6), .int (f 7), .ref (ad 7), .ref (ad 8), .int (f 8), .int (f 9), .int v, .int (f 11), .int (f 12), .int (f 13)])))) : rh_W G A s H locs (mw cyI cyZ x ad (upd f 10 v) g) := h
theorem mp_11 {G : va_G} {A : Nat → Prop} {s : State} {H : Heap} {locs : List Loc} {cyI cyZ : ClassId} {x : Nat} {ad : Nat → Nat} {f : Nat → Int32} {g : Nat → Nat → Int32} {v : Int32} (h : rh_W G A s H locs ((mw cyI cyZ x ad f g).set 0 (x, .inr (3, [.int (f 0), .int (f 1), .int (f 2), .ref (ad 1), .ref (ad 2), .ref (ad 3), .ref (ad 4), .int (f 3), .ref (ad 5), .ref (ad 6), .int (f 4), .int (f 5), .int (f 6), .int (f 7), .ref (ad 7), .ref (ad 8), .int (f 8), .int (f 9), .int (f 10), .int v, .int (f 12), .int (f 13)])))) : rh_W G A s H locs (mw cyI cyZ x ad (upd f 11 v) g) := h
theorem mp_12 {G : va_G} {A : Nat → Prop} {s : State} {H : Heap} {locs : List Loc} {cyI cyZ : ClassId} {x : Nat} {ad : Nat → Nat} {f : Nat → Int32} {g : Nat → Nat → Int32} {v : Int32} (h : rh_W G A s H locs ((mw cyI cyZ x ad f g).set 0 (x, .inr (3, [.int (f 0), .int (f 1), .int (f 2), .ref (ad 1), .ref (ad 2), .ref (ad 3), .ref (ad 4), .int (f 3), .ref (ad 5), .ref (ad 6), .int (f 4), .int (f 5), .int (f 6), .int (f 7), .ref (ad 7), .ref (ad 8), .int (f 8), .int (f 9), .int (f 10), .int (f 11), .int v, .int (f 13)])))) : rh_W G A s H locs (mw cyI cyZ x ad (upd f 12 v) g) := h
theorem mp_13 {G : va_G} {A : Nat → Prop} {s : State} {H : Heap} {locs : List Loc} {cyI cyZ : ClassId} {x : Nat} {ad : Nat → Nat} {f : Nat → Int32} {g : Nat → Nat → Int32} {v : Int32} (h : rh_W G A s H locs ((mw cyI cyZ x ad f g).set 0 (x, .inr (3, [.int (f 0), .int (f 1), .int (f 2), .ref (ad 1), .ref (ad 2), .ref (ad 3), .ref (ad 4), .int (f 3), .ref (ad 5), .ref (ad 6), .int (f 4), .int (f 5), .int (f 6), .int (f 7), .ref (ad 7), .ref (ad 8), .int (f 8), .int (f 9), .int (f 10), .int (f 11), .int (f 12), .int v])))) : rh_W G A s H locs (mw cyI cyZ x ad (upd f 13 v) g) := h
theorem mr_0 {G : va_G} {A : Nat → Prop} {s : State} {H : Heap} {locs : List Loc} {cyI cyZ : ClassId} {x : Nat} {ad : Nat → Nat} {f : Nat → Int32} {g : Nat → Nat → Int32} {r : Nat → Int32} (h : rh_W G A s H locs ((mw cyI cyZ x ad f g).set 1 (ad 1, .inl (cyI, 800, .inl r)))) : rh_W G A s H locs (mw cyI cyZ x ad f (ur g 0 r)) := h
theorem mr_1 {G : va_G} {A : Nat → Prop} {s : State} {H : Heap} {locs : List Loc} {cyI cyZ : ClassId} {x : Nat} {ad : Nat → Nat} {f : Nat → Int32} {g : Nat → Nat → Int32} {r : Nat → Int32} (h : rh_W G A s H locs ((mw cyI cyZ x ad f g).set 2 (ad 2, .inl (cyI, 800, .inl r)))) : rh_W G A s H locs (mw cyI cyZ x ad f (ur g 1 r)) := h
theorem mr_2 {G : va_G} {A : Nat → Prop} {s : State} {H : Heap} {locs : List Loc} {cyI cyZ : ClassId} {x : Nat} {ad : Nat → Nat} {f : Nat → Int32} {g : Nat → Nat → Int32} {r : Nat → Int32} (h : rh_W G A s H locs ((mw cyI cyZ x ad f g).set 3 (ad 3, .inl (cyI, 800, .inl r)))) : rh_W G A s H locs (mw cyI cyZ x ad f (ur g 2 r)) := h
theorem mr_3 {G : va_G} {A : Nat → Prop} {s : State} {H : Heap} {locs : List Loc} {cyI cyZ : ClassId} {x : Nat} {ad : Nat → Nat} {f : Nat → Int32} {g : Nat → Nat → Int32} {r : Nat → Int32} (h : rh_W G A s H locs ((mw cyI cyZ x ad f g).set 4 (ad 4, .inl (cyI, 2, .inl r)))) : rh_W G A s H locs (mw cyI cyZ x ad f (ur g 3 r)) := h
theorem mr_4 {G : va_G} {A : Nat → Prop} {s : State} {H : Heap} {locs : List Loc} {cyI cyZ : ClassId} {x : Nat} {ad : Nat → Nat} {f : Nat → Int32} {g : Nat → Nat → Int32} {r : Nat → Int32} (h : rh_W G A s H locs ((mw cyI cyZ x ad f g).set 5 (ad 5, .inl (cyZ, 16, .inl r)))) : rh_W G A s H locs (mw cyI cyZ x ad f (ur g 4 r)) := h
theorem mr_5 {G : va_G} {A : Nat → Prop} {s : State} {H : Heap} {locs : List Loc} {cyI cyZ : ClassId} {x : Nat} {ad : Nat → Nat} {f : Nat → Int32} {g : Nat → Nat → Int32} {r : Nat → Int32} (h : rh_W G A s H locs ((mw cyI cyZ x ad f g).set 6 (ad 6, .inl (cyI, 16, .inl r)))) : rh_W G A s H locs (mw cyI cyZ x ad f (ur g 5 r)) := h
theorem mr_6 {G : va_G} {A : Nat → Prop} {s : State} {H : Heap} {locs : List Loc} {cyI cyZ : ClassId} {x : Nat} {ad : Nat → Nat} {f : Nat → Int32} {g : Nat → Nat → Int32} {r : Nat → Int32} (h : rh_W G A s H locs ((mw cyI cyZ x ad f g).set 7 (ad 7, .inl (cyI, 4096, .inl r)))) : rh_W G A s H locs (mw cyI cyZ x ad f (ur g 6 r)) := h
theorem mr_7 {G : va_G} {A : Nat → Prop} {s : State} {H : Heap} {locs : List Loc} {cyI cyZ : ClassId} {x : Nat} {ad : Nat → Nat} {f : Nat → Int32} {g : Nat → Nat → Int32} {r : Nat → Int32} (h : rh_W G A s H locs ((mw cyI cyZ x ad f g).set 8 (ad 8, .inl (cyI, 4096, .inl r)))) : rh_W G A s H locs (mw cyI cyZ x ad f (ur g 7 r)) := h
/-- a boolean that is answered -/
def bz {β : Type} (v : Int32) (k : Option β) : Option β := if v = 0 ∨ v = 1 then k else none
theorem bz_some {β : Type} {v : Int32} {k : Option β} {x : β} (h : bz v k = some x) : (v = 0 ∨ v = 1) ∧ k = some x := by
  unfold bz at h
  split at h
  · next hc => exact ⟨hc, h⟩
  · cases h
theorem bz_nar {v : Int32} (h : v = 0 ∨ v = 1) : narrow .boolean (.int v) = .int v := by
  rcases h with rfl | rfl <;> rfl
