abbrev rmX3_thrown : Room := { frames := 0, cells := 0, slots := 0, locals := 0 }
set_option maxRecDepth 100000 in
theorem iX3_thrown_X3 : ∀ w ∈ u_ws RX3 TX3 22, w ∈ wsX3_thrown := by decide +kernel
def sX3_thrown (f : Nat → Int32) (g : Nat → Nat → Int32) : Option Int32 := some (f 0)
set_option maxHeartbeats 4000000 in
set_option maxRecDepth 100000 in
theorem bX3_thrown {p : Program} {l : Launch} {e : Env} {s : State} {m : MethodId} {args : Array Value} {below : List Frame} {meth : Method} {c : Code} {Q : State → Prop} {A : Nat → Prop} {G : va_G} {cyI cyZ : ClassId} {x : Nat} {ad : Nat → Nat} {f : Nat → Int32} {g : Nat → Nat → Int32} (X : rh_X p s m args c cX3_thrown 1 RX3 wsX3_thrown G [(cyI, .int), (cyZ, .boolean)] [] A) {r' : Int32} (ret : ∀ (H : Heap) (locs : List Loc) (ls : Array Slot) (pc : Nat), narrow .int (.int r') = .int r' → decode cX3_thrown pc = .ok (.ireturn, 1) → rh_W G A s H locs (mw cyI cyZ x ad f g) → W p l e rmX3_thrown s m args below meth c H locs 0 0 Q (F0 m pc ls [.int r'])) : ∀ (H : Heap) (locs : List Loc) (ls : Array Slot), rh_W G A s H locs (mw cyI cyZ x ad f g) → lv_has ls 1 [(0, .ref x)] → sX3_thrown f g = some r' → W p l e rmX3_thrown s m args below meth c H locs 0 0 Q (F0 m 0 ls []) := by
  have hx := X.1
  have hb := X.2.1
  have hown := X.2.2.2.1
  have hts := X.2.2.2.2.1
  have hK := X.2.2.2.2.2.1
  have hNN := X.2.2.2.2.2.2.1.2
  intro H locs ls h hl hs
  unfold sX3_thrown at hs
  refine lv_aload_n hx hb dX3_thrown_0 rfl (lv_at hl 0 rfl) ?_
  refine rh_get X h (v := .int (f 0)) iX3_thrown_X3 0 0 rfl rfl (by decide) (by decide +kernel) rfl dX3_thrown_1 ?_
  cases hs
  exact ret _ _ _ _ rfl dX3_thrown_4 h
theorem kX3_thrown (l : Launch) (G : va_G) {cyI cyZ : ClassId} {x : Nat} {ad : Nat → Nat} {f : Nat → Int32} {g : Nat → Nat → Int32} {r' : Int32} (hs : sX3_thrown f g = some r') : rh_Mi l yX3_thrown wsX3_thrown rmX3_thrown G [(cyI, .int), (cyZ, .boolean)] [] (mw cyI cyZ x ad f g) [.ref x] r' (mw cyI cyZ x ad f g) :=
  rh_ofi (by decide +kernel) rfl (Nat.le_of_ble_eq_true rfl) (fun p e s m below meth c A Q X ret ls hl h => bX3_thrown X ret _ _ ls h hl hs)
abbrev rmX3_other : Room := { frames := 0, cells := 0, slots := 0, locals := 0 }
set_option maxRecDepth 100000 in
theorem iX3_other_X3 : ∀ w ∈ u_ws RX3 TX3 22, w ∈ wsX3_other := by decide +kernel
def sX3_other (f : Nat → Int32) (g : Nat → Nat → Int32) : Option Int32 := some (1 - (f 3))
set_option maxHeartbeats 4000000 in
set_option maxRecDepth 100000 in
theorem bX3_other {p : Program} {l : Launch} {e : Env} {s : State} {m : MethodId} {args : Array Value} {below : List Frame} {meth : Method} {c : Code} {Q : State → Prop} {A : Nat → Prop} {G : va_G} {cyI cyZ : ClassId} {x : Nat} {ad : Nat → Nat} {f : Nat → Int32} {g : Nat → Nat → Int32} (X : rh_X p s m args c cX3_other 1 RX3 wsX3_other G [(cyI, .int), (cyZ, .boolean)] [] A) {r' : Int32} (ret : ∀ (H : Heap) (locs : List Loc) (ls : Array Slot) (pc : Nat), narrow .int (.int r') = .int r' → decode cX3_other pc = .ok (.ireturn, 1) → rh_W G A s H locs (mw cyI cyZ x ad f g) → W p l e rmX3_other s m args below meth c H locs 0 0 Q (F0 m pc ls [.int r'])) : ∀ (H : Heap) (locs : List Loc) (ls : Array Slot), rh_W G A s H locs (mw cyI cyZ x ad f g) → lv_has ls 1 [(0, .ref x)] → sX3_other f g = some r' → W p l e rmX3_other s m args below meth c H locs 0 0 Q (F0 m 0 ls []) := by
  have hx := X.1
  have hb := X.2.1
  have hown := X.2.2.2.1
  have hts := X.2.2.2.2.1
  have hK := X.2.2.2.2.2.1
  have hNN := X.2.2.2.2.2.2.1.2
  intro H locs ls h hl hs
  unfold sX3_other at hs
  refine lv_iconst (v := 1) hx hb dX3_other_0 (by decide) ?_
  refine lv_aload_n hx hb dX3_other_1 rfl (lv_at hl 0 rfl) ?_
  refine rh_get X h (v := .int (f 3)) iX3_other_X3 0 7 rfl rfl (by decide) (by decide +kernel) rfl dX3_other_2 ?_
  refine lv_isub hx hb dX3_other_5 ?_
  cases hs
  exact ret _ _ _ _ rfl dX3_other_6 h
theorem kX3_other (l : Launch) (G : va_G) {cyI cyZ : ClassId} {x : Nat} {ad : Nat → Nat} {f : Nat → Int32} {g : Nat → Nat → Int32} {r' : Int32} (hs : sX3_other f g = some r') : rh_Mi l yX3_other wsX3_other rmX3_other G [(cyI, .int), (cyZ, .boolean)] [] (mw cyI cyZ x ad f g) [.ref x] r' (mw cyI cyZ x ad f g) :=
  rh_ofi (by decide +kernel) rfl (Nat.le_of_ble_eq_true rfl) (fun p e s m below meth c A Q X ret ls hl h => bX3_other X ret _ _ ls h hl hs)
abbrev rmX3_at : Room := { frames := 0, cells := 0, slots := 0, locals := 0 }
def sX3_at (p0 : Int32) (p1 : Int32) : Option Int32 := some ((400 * p0) + p1)
set_option maxHeartbeats 4000000 in
set_option maxRecDepth 100000 in
theorem bX3_at {p : Program} {l : Launch} {e : Env} {s : State} {m : MethodId} {args : Array Value} {below : List Frame} {meth : Method} {c : Code} {Q : State → Prop} {A : Nat → Prop} {G : va_G} {w : va_W} {tys : List (ClassId × FieldType)} {L0 : List Cond} (X : rh_X p s m args c cX3_at 2 RX3 wsX3_at G tys L0 A) {r' : Int32} (ret : ∀ (H : Heap) (locs : List Loc) (ls : Array Slot) (pc : Nat), narrow .int (.int r') = .int r' → decode cX3_at pc = .ok (.ireturn, 1) → rh_W G A s H locs (w) → W p l e rmX3_at s m args below meth c H locs 0 0 Q (F0 m pc ls [.int r'])) : ∀ (H : Heap) (locs : List Loc) (ls : Array Slot) (p0 : Int32) (p1 : Int32), rh_W G A s H locs (w) → lv_has ls 2 [(0, .int p0), (1, .int p1)] → sX3_at  p0 p1 = some r' → W p l e rmX3_at s m args below meth c H locs 0 0 Q (F0 m 0 ls []) := by
  have hx := X.1
  have hb := X.2.1
  have hown := X.2.2.2.1
  have hts := X.2.2.2.2.1
  have hK := X.2.2.2.2.2.1
  have hNN := X.2.2.2.2.2.2.1.2
  intro H locs ls p0 p1 h hl hs
  unfold sX3_at at hs
  refine lv_sipush (v := 400) hx hb dX3_at_0 (by decide) ?_
  refine lv_iload_n hx hb dX3_at_3 rfl (lv_at hl 0 rfl) ?_
  refine lv_imul hx hb dX3_at_4 ?_
  refine lv_iload_n hx hb dX3_at_5 rfl (lv_at hl 1 rfl) ?_
  refine lv_iadd hx hb dX3_at_6 ?_
  cases hs
  exact ret _ _ _ _ rfl dX3_at_7 h
theorem kX3_at (l : Launch) (G : va_G) {w : va_W} {tys : List (ClassId × FieldType)} {L0 : List Cond} {p0 : Int32} {p1 : Int32} {r' : Int32} (hs : sX3_at  p0 p1 = some r') : rh_Mi l yX3_at wsX3_at rmX3_at G tys L0 (w) [.int p0, .int p1] r' (w) :=
  rh_ofi (by decide +kernel) rfl (Nat.le_of_ble_eq_true rfl) (fun p e s m below meth c A Q X ret ls hl h => bX3_at X ret _ _ ls p0 p1 h hl hs)
abbrev rmX3_replicate : Room := { frames := 1, cells := 0, slots := 0, locals := 21 }
set_option maxRecDepth 100000 in
theorem iX3_replicate_X3 : ∀ w ∈ u_ws RX3 TX3 22, w ∈ wsX3_replicate := by decide +kernel
def sX3_replicate_49 : Nat → (Nat → Int32) → (Nat → Nat → Int32) → Int32 → Int32 → Int32 → Int32 → Option (Int32 × (Nat → Int32) × (Nat → Nat → Int32))
  | 0, _, _, _, _, _, _ => none
  | k + 1, f, g, v2, v3, v4, v5 => if v3 < v5 then (wt 800 v4 (bR (sX3_other f (ur g 2 (upd (g 2) v4.toNatClampNeg (-1)))) (fun r21 => rd (g 3) 2 r21 (fun v23 => wt 800 v2 (bR (sX3_other f (ur (ur g 2 (upd (g 2) v4.toNatClampNeg (-1))) 2 (upd (upd (g 2) v4.toNatClampNeg (-1)) v2.toNatClampNeg v23))) (fun r27 => rd (g 3) 2 r27 (fun v29 => lt (v29 + (v3 + 1)) (fun z32 => wt 2 r27 (some ((v3 + 1, f, (ur (ur (ur g 2 (upd (g 2) v4.toNatClampNeg (-1))) 2 (upd (upd (g 2) v4.toNatClampNeg (-1)) v2.toNatClampNeg v23)) 3 (upd (g 3) r27.toNatClampNeg z32))))))))))))) else (rd (g 0) 800 (v2 + v5) (fun v35 => wt 800 (v4 + v5) (rd (g 1) 800 (v2 + v5) (fun v39 => wt 800 (v4 + v5) (sX3_replicate_49 k f (ur (ur g 0 (upd (g 0) (v4 + v5).toNatClampNeg v35)) 1 (upd (g 1) (v4 + v5).toNatClampNeg v39)) v2 v3 v4 (v5 + 1))))))
set_option maxHeartbeats 4000000 in
set_option maxRecDepth 100000 in
theorem bX3_replicate_49 {p : Program} {l : Launch} {e : Env} {s : State} {m : MethodId} {args : Array Value} {below : List Frame} {meth : Method} {c : Code} {Q : State → Prop} {A : Nat → Prop} {G : va_G} {cyI cyZ : ClassId} {x : Nat} {ad : Nat → Nat} (X : rh_X p s m args c cX3_replicate 6 RX3 wsX3_replicate G [(cyI, .int), (cyZ, .boolean)] [] A) {r' : Int32} {f' : Nat → Int32} {g' : Nat → Nat → Int32} (ret : ∀ (H : Heap) (locs : List Loc) (ls : Array Slot) (pc : Nat), narrow .int (.int r') = .int r' → decode cX3_replicate pc = .ok (.ireturn, 1) → rh_W G A s H locs (mw cyI cyZ x ad f' g') → W p l e rmX3_replicate s m args below meth c H locs 0 0 Q (F0 m pc ls [.int r'])) : ∀ k : Nat, ∀ (H : Heap) (locs : List Loc) (ls : Array Slot) (f : Nat → Int32) (g : Nat → Nat → Int32) (v2 : Int32) (v3 : Int32) (v4 : Int32) (v5 : Int32), rh_W G A s H locs (mw cyI cyZ x ad f g) → lv_has ls 6 [(0, .ref x), (2, .int v2), (3, .int v3), (4, .int v4), (5, .int v5)] → sX3_replicate_49 k f g v2 v3 v4 v5 = some (r', f', g') → W p l e rmX3_replicate s m args below meth c H locs 0 0 Q (F0 m 49 ls []) := by
  have hx := X.1
  have hb := X.2.1
  have hown := X.2.2.2.1
  have hts := X.2.2.2.2.1
  have hK := X.2.2.2.2.2.1
  have hNN := X.2.2.2.2.2.2.1.2
  intro k
  induction k with
  | zero => intro H locs ls f g v2 v3 v4 v5 h hl hs; cases hs
  | succ k ih =>
    intro H locs ls f g v2 v3 v4 v5 h hl hs
    simp only [sX3_replicate_49] at hs
    refine lv_iload hx hb dX3_replicate_49 (lv_at hl 4 rfl) ?_
    refine lv_iload_n hx hb dX3_replicate_51 rfl (lv_at hl 2 rfl) ?_
    refine lv_icmp_gt (tgt := 99) hx hb dX3_replicate_52 (by decide) (fun c19 => ?_) (fun c19 => ?_)
    · have hs := ite_p c19 hs
      refine lv_aload_n hx hb dX3_replicate_99 rfl (lv_at hl 0 rfl) ?_
      refine rh_get X h (v := .ref (ad 3)) iX3_replicate_X3 0 5 rfl rfl (by decide) (by decide +kernel) rfl dX3_replicate_100 ?_
      refine lv_iload hx hb dX3_replicate_103 (lv_at hl 3 rfl) ?_
      refine lv_iconst (v := (-1)) hx hb dX3_replicate_105 (by decide) ?_
      obtain ⟨i20, hs⟩ := wt_some hs
      refine rh_iast X h 3 0 rfl rfl i20 dX3_replicate_106 (fun H locs h => ?_)
      have h : rh_W G A s H locs (mw cyI cyZ x ad f (ur g 2 (upd (g 2) v4.toNatClampNeg (-1)))) := mr_2 h
      refine lv_aload_n hx hb dX3_replicate_107 rfl (lv_at hl 0 rfl) ?_
      refine rh_get X h (v := .ref (ad 3)) iX3_replicate_X3 0 5 rfl rfl (by decide) (by decide +kernel) rfl dX3_replicate_108 ?_
      refine lv_iload_n hx hb dX3_replicate_111 rfl (lv_at hl 1 rfl) ?_
      refine lv_aload_n hx hb dX3_replicate_112 rfl (lv_at hl 0 rfl) ?_
      refine rh_get X h (v := .ref (ad 4)) iX3_replicate_X3 0 6 rfl rfl (by decide) (by decide +kernel) rfl dX3_replicate_113 ?_
      refine lv_aload_n hx hb dX3_replicate_116 rfl (lv_at hl 0 rfl) ?_
      obtain ⟨r21, h22, hs⟩ := bR_some hs
      refine rh_Vi X h (kX3_other l G (cyI := cyI) (cyZ := cyZ) (x := x) (ad := ad) h22) (cwV 0 hts gX3_replicate_X3_other rfl rfl rfl (by decide +kernel) ⟨Nat.le_of_ble_eq_true rfl, Nat.le_of_ble_eq_true rfl⟩) (va_recv hK h.1 (ci := 3) (q0 := 0) rfl rfl) rfl hl.1 rfl (Nat.le_of_ble_eq_true rfl) dX3_replicate_117 ⟨Nat.zero_le _, Nat.zero_le _⟩ (fun H locs h => ?_)
      obtain ⟨i25, v23, e24, hs⟩ := rd_some hs
      refine rh_iald X h 4 0 rfl rfl i25 e24 dX3_replicate_120 ?_
      obtain ⟨i26, hs⟩ := wt_some hs
      refine rh_iast X h 3 0 rfl rfl i26 dX3_replicate_121 (fun H locs h => ?_)
      have h : rh_W G A s H locs (mw cyI cyZ x ad f (ur (ur g 2 (upd (g 2) v4.toNatClampNeg (-1))) 2 (upd (upd (g 2) v4.toNatClampNeg (-1)) v2.toNatClampNeg v23))) := mr_2 h
      refine lv_aload_n hx hb dX3_replicate_122 rfl (lv_at hl 0 rfl) ?_
      refine rh_get X h (v := .ref (ad 4)) iX3_replicate_X3 0 6 rfl rfl (by decide) (by decide +kernel) rfl dX3_replicate_123 ?_
      refine lv_aload_n hx hb dX3_replicate_126 rfl (lv_at hl 0 rfl) ?_
      obtain ⟨r27, h28, hs⟩ := bR_some hs
      refine rh_Vi X h (kX3_other l G (cyI := cyI) (cyZ := cyZ) (x := x) (ad := ad) h28) (cwV 0 hts gX3_replicate_X3_other rfl rfl rfl (by decide +kernel) ⟨Nat.le_of_ble_eq_true rfl, Nat.le_of_ble_eq_true rfl⟩) (va_recv hK h.1 (ci := 3) (q0 := 0) rfl rfl) rfl hl.1 rfl (Nat.le_of_ble_eq_true rfl) dX3_replicate_127 ⟨Nat.zero_le _, Nat.zero_le _⟩ (fun H locs h => ?_)
      refine lv_dup2_11 hx hb dX3_replicate_130 rfl rfl ?_
      obtain ⟨i31, v29, e30, hs⟩ := rd_some hs
      refine rh_iald X h 4 0 rfl rfl i31 e30 dX3_replicate_131 ?_
      refine lv_iload_n hx hb dX3_replicate_132 rfl (lv_at hl 2 rfl) ?_
      refine lv_iconst (v := 1) hx hb dX3_replicate_133 (by decide) ?_
      refine lv_iadd hx hb dX3_replicate_134 ?_
      refine lv_iadd hx hb dX3_replicate_135 ?_
      obtain ⟨z32, e33, hs⟩ := lt_some hs
      refine rh_top e33 ?_
      obtain ⟨i34, hs⟩ := wt_some hs
      refine rh_iast X h 4 0 rfl rfl i34 dX3_replicate_136 (fun H locs h => ?_)
      have h : rh_W G A s H locs (mw cyI cyZ x ad f (ur (ur (ur g 2 (upd (g 2) v4.toNatClampNeg (-1))) 2 (upd (upd (g 2) v4.toNatClampNeg (-1)) v2.toNatClampNeg v23)) 3 (upd (g 3) r27.toNatClampNeg z32))) := mr_3 h
      refine lv_iload_n hx hb dX3_replicate_137 rfl (lv_at hl 2 rfl) ?_
      refine lv_iconst (v := 1) hx hb dX3_replicate_138 (by decide) ?_
      refine lv_iadd hx hb dX3_replicate_139 ?_
      cases hs
      exact ret _ _ _ _ rfl dX3_replicate_140 h
    · have hs := ite_n c19 hs
      refine lv_aload_n hx hb dX3_replicate_55 rfl (lv_at hl 0 rfl) ?_
      refine rh_get X h (v := .ref (ad 1)) iX3_replicate_X3 0 3 rfl rfl (by decide) (by decide +kernel) rfl dX3_replicate_56 ?_
      refine lv_iload hx hb dX3_replicate_59 (lv_at hl 3 rfl) ?_
      refine lv_iload hx hb dX3_replicate_61 (lv_at hl 4 rfl) ?_
      refine lv_iadd hx hb dX3_replicate_63 ?_
      refine lv_aload_n hx hb dX3_replicate_64 rfl (lv_at hl 0 rfl) ?_
      refine rh_get X h (v := .ref (ad 1)) iX3_replicate_X3 0 3 rfl rfl (by decide) (by decide +kernel) rfl dX3_replicate_65 ?_
      refine lv_iload_n hx hb dX3_replicate_68 rfl (lv_at hl 1 rfl) ?_
      refine lv_iload hx hb dX3_replicate_69 (lv_at hl 4 rfl) ?_
      refine lv_iadd hx hb dX3_replicate_71 ?_
      obtain ⟨i37, v35, e36, hs⟩ := rd_some hs
      refine rh_iald X h 1 0 rfl rfl i37 e36 dX3_replicate_72 ?_
      obtain ⟨i38, hs⟩ := wt_some hs
      refine rh_iast X h 1 0 rfl rfl i38 dX3_replicate_73 (fun H locs h => ?_)
      have h : rh_W G A s H locs (mw cyI cyZ x ad f (ur g 0 (upd (g 0) (v4 + v5).toNatClampNeg v35))) := mr_0 h
      refine lv_aload_n hx hb dX3_replicate_74 rfl (lv_at hl 0 rfl) ?_
      refine rh_get X h (v := .ref (ad 2)) iX3_replicate_X3 0 4 rfl rfl (by decide) (by decide +kernel) rfl dX3_replicate_75 ?_
      refine lv_iload hx hb dX3_replicate_78 (lv_at hl 3 rfl) ?_
      refine lv_iload hx hb dX3_replicate_80 (lv_at hl 4 rfl) ?_
      refine lv_iadd hx hb dX3_replicate_82 ?_
      refine lv_aload_n hx hb dX3_replicate_83 rfl (lv_at hl 0 rfl) ?_
      refine rh_get X h (v := .ref (ad 2)) iX3_replicate_X3 0 4 rfl rfl (by decide) (by decide +kernel) rfl dX3_replicate_84 ?_
      refine lv_iload_n hx hb dX3_replicate_87 rfl (lv_at hl 1 rfl) ?_
      refine lv_iload hx hb dX3_replicate_88 (lv_at hl 4 rfl) ?_
      refine lv_iadd hx hb dX3_replicate_90 ?_
      obtain ⟨i41, v39, e40, hs⟩ := rd_some hs
      refine rh_iald X h 2 0 rfl rfl i41 e40 dX3_replicate_91 ?_
      obtain ⟨i42, hs⟩ := wt_some hs
      refine rh_iast X h 2 0 rfl rfl i42 dX3_replicate_92 (fun H locs h => ?_)
      have h : rh_W G A s H locs (mw cyI cyZ x ad f (ur (ur g 0 (upd (g 0) (v4 + v5).toNatClampNeg v35)) 1 (upd (g 1) (v4 + v5).toNatClampNeg v39))) := mr_1 h
      refine lv_iinc (v := v5 + 1) (lv' := [(5, .int (v5 + 1)), (0, .ref x), (2, .int v2), (3, .int v3), (4, .int v4)]) hx hb dX3_replicate_93 hl (k := 4) rfl rfl (by decide) rfl (fun ls hl => ?_)
      refine lv_goto (tgt := 49) hx hb dX3_replicate_96 (by decide) ?_
      exact ih _ _ _ f (ur (ur g 0 (upd (g 0) (v4 + v5).toNatClampNeg v35)) 1 (upd (g 1) (v4 + v5).toNatClampNeg v39)) v2 v3 v4 (v5 + 1) h (lv_sub hl [1, 2, 3, 4, 0] rfl) hs
def sX3_replicate (f : Nat → Int32) (g : Nat → Nat → Int32) (p1 : Int32) : Option (Int32 × (Nat → Int32) × (Nat → Nat → Int32)) := bR (sX3_at  (f 3) p1) (fun r1 => rd (g 2) 800 r1 (fun v3 => if v3 = (-1) then (rd (g 1) 800 r1 (fun v7 => bR (sX3_other f g) (fun r10 => bR (sX3_other f g) (fun r12 => rd (g 3) 2 r12 (fun v14 => bR (sX3_at  r10 v14) (fun r17 => sX3_replicate_49 40 f g r1 v7 r17 0)))))) else (some ((0, f, g)))))
set_option maxHeartbeats 4000000 in
set_option maxRecDepth 100000 in
theorem bX3_replicate {p : Program} {l : Launch} {e : Env} {s : State} {m : MethodId} {args : Array Value} {below : List Frame} {meth : Method} {c : Code} {Q : State → Prop} {A : Nat → Prop} {G : va_G} {cyI cyZ : ClassId} {x : Nat} {ad : Nat → Nat} (X : rh_X p s m args c cX3_replicate 6 RX3 wsX3_replicate G [(cyI, .int), (cyZ, .boolean)] [] A) {r' : Int32} {f' : Nat → Int32} {g' : Nat → Nat → Int32} (ret : ∀ (H : Heap) (locs : List Loc) (ls : Array Slot) (pc : Nat), narrow .int (.int r') = .int r' → decode cX3_replicate pc = .ok (.ireturn, 1) → rh_W G A s H locs (mw cyI cyZ x ad f' g') → W p l e rmX3_replicate s m args below meth c H locs 0 0 Q (F0 m pc ls [.int r'])) : ∀ (H : Heap) (locs : List Loc) (ls : Array Slot) (f : Nat → Int32) (g : Nat → Nat → Int32) (p1 : Int32), rh_W G A s H locs (mw cyI cyZ x ad f g) → lv_has ls 6 [(0, .ref x), (1, .int p1)] → sX3_replicate f g p1 = some (r', f', g') → W p l e rmX3_replicate s m args below meth c H locs 0 0 Q (F0 m 0 ls []) := by
  have hx := X.1
  have hb := X.2.1
  have hown := X.2.2.2.1
  have hts := X.2.2.2.2.1
  have hK := X.2.2.2.2.2.1
  have hNN := X.2.2.2.2.2.2.1.2
  intro H locs ls f g p1 h hl hs
  unfold sX3_replicate at hs
  refine lv_aload_n hx hb dX3_replicate_0 rfl (lv_at hl 0 rfl) ?_
  refine rh_get X h (v := .int (f 3)) iX3_replicate_X3 0 7 rfl rfl (by decide) (by decide +kernel) rfl dX3_replicate_1 ?_
  refine lv_iload_n hx hb dX3_replicate_4 rfl (lv_at hl 1 rfl) ?_
  obtain ⟨r1, h2, hs⟩ := bR_some hs
  refine rh_Si X h (kX3_at l G h2) (va_cwS 2 hts gX3_replicate_X3_at rfl rfl rfl (by decide +kernel) ⟨Nat.le_of_ble_eq_true rfl, Nat.le_of_ble_eq_true rfl⟩) rfl hl.1 rfl (Nat.le_of_ble_eq_true rfl) dX3_replicate_5 ⟨Nat.zero_le _, Nat.zero_le _⟩ (fun H locs h => ?_)
  refine lv_istore_n (lv' := [(2, .int r1), (0, .ref x), (1, .int p1)]) hx hb dX3_replicate_8 rfl hl (by decide) rfl (fun ls hl => ?_)
  refine lv_aload_n hx hb dX3_replicate_9 rfl (lv_at hl 1 rfl) ?_
  refine rh_get X h (v := .ref (ad 3)) iX3_replicate_X3 0 5 rfl rfl (by decide) (by decide +kernel) rfl dX3_replicate_10 ?_
  refine lv_iload_n hx hb dX3_replicate_13 rfl (lv_at hl 0 rfl) ?_
  obtain ⟨i5, v3, e4, hs⟩ := rd_some hs
  refine rh_iald X h 3 0 rfl rfl i5 e4 dX3_replicate_14 ?_
  refine lv_iconst (v := (-1)) hx hb dX3_replicate_15 (by decide) ?_
  refine lv_icmp_eq (tgt := 21) hx hb dX3_replicate_16 (by decide) (fun c6 => ?_) (fun c6 => ?_)
  · have hs := ite_p c6 hs
    refine lv_aload_n hx hb dX3_replicate_21 rfl (lv_at hl 1 rfl) ?_
    refine rh_get X h (v := .ref (ad 2)) iX3_replicate_X3 0 4 rfl rfl (by decide) (by decide +kernel) rfl dX3_replicate_22 ?_
    refine lv_iload_n hx hb dX3_replicate_25 rfl (lv_at hl 0 rfl) ?_
    obtain ⟨i9, v7, e8, hs⟩ := rd_some hs
    refine rh_iald X h 2 0 rfl rfl i9 e8 dX3_replicate_26 ?_
    refine lv_istore_n (lv' := [(3, .int v7), (2, .int r1), (0, .ref x), (1, .int p1)]) hx hb dX3_replicate_27 rfl hl (by decide) rfl (fun ls hl => ?_)
    refine lv_aload_n hx hb dX3_replicate_28 rfl (lv_at hl 2 rfl) ?_
    obtain ⟨r10, h11, hs⟩ := bR_some hs
    refine rh_Vi X h (kX3_other l G (cyI := cyI) (cyZ := cyZ) (x := x) (ad := ad) h11) (cwV 0 hts gX3_replicate_X3_other rfl rfl rfl (by decide +kernel) ⟨Nat.le_of_ble_eq_true rfl, Nat.le_of_ble_eq_true rfl⟩) (va_recv hK h.1 (ci := 3) (q0 := 0) rfl rfl) rfl hl.1 rfl (Nat.le_of_ble_eq_true rfl) dX3_replicate_29 ⟨Nat.zero_le _, Nat.zero_le _⟩ (fun H locs h => ?_)
    refine lv_aload_n hx hb dX3_replicate_32 rfl (lv_at hl 2 rfl) ?_
    refine rh_get X h (v := .ref (ad 4)) iX3_replicate_X3 0 6 rfl rfl (by decide) (by decide +kernel) rfl dX3_replicate_33 ?_
    refine lv_aload_n hx hb dX3_replicate_36 rfl (lv_at hl 2 rfl) ?_
    obtain ⟨r12, h13, hs⟩ := bR_some hs
    refine rh_Vi X h (kX3_other l G (cyI := cyI) (cyZ := cyZ) (x := x) (ad := ad) h13) (cwV 0 hts gX3_replicate_X3_other rfl rfl rfl (by decide +kernel) ⟨Nat.le_of_ble_eq_true rfl, Nat.le_of_ble_eq_true rfl⟩) (va_recv hK h.1 (ci := 3) (q0 := 0) rfl rfl) rfl hl.1 rfl (Nat.le_of_ble_eq_true rfl) dX3_replicate_37 ⟨Nat.zero_le _, Nat.zero_le _⟩ (fun H locs h => ?_)
    obtain ⟨i16, v14, e15, hs⟩ := rd_some hs
    refine rh_iald X h 4 0 rfl rfl i16 e15 dX3_replicate_40 ?_
    obtain ⟨r17, h18, hs⟩ := bR_some hs
    refine rh_Si X h (kX3_at l G h18) (va_cwS 2 hts gX3_replicate_X3_at rfl rfl rfl (by decide +kernel) ⟨Nat.le_of_ble_eq_true rfl, Nat.le_of_ble_eq_true rfl⟩) rfl hl.1 rfl (Nat.le_of_ble_eq_true rfl) dX3_replicate_41 ⟨Nat.zero_le _, Nat.zero_le _⟩ (fun H locs h => ?_)
    refine lv_istore (lv' := [(4, .int r17), (3, .int v7), (2, .int r1), (0, .ref x), (1, .int p1)]) hx hb dX3_replicate_44 hl (by decide) rfl (fun ls hl => ?_)
    refine lv_iconst (v := 0) hx hb dX3_replicate_46 (by decide) ?_
    refine lv_istore (lv' := [(5, .int 0), (4, .int r17), (3, .int v7), (2, .int r1), (0, .ref x), (1, .int p1)]) hx hb dX3_replicate_47 hl (by decide) rfl (fun ls hl => ?_)
    exact bX3_replicate_49 X ret 40  _ _ _ f g r1 v7 r17 0 h (lv_sub hl [4, 3, 2, 1, 0] rfl) hs
  · have hs := ite_n c6 hs
    refine lv_iconst (v := 0) hx hb dX3_replicate_19 (by decide) ?_
    cases hs
    exact ret _ _ _ _ rfl dX3_replicate_20 h
theorem kX3_replicate (l : Launch) (G : va_G) {cyI cyZ : ClassId} {x : Nat} {ad : Nat → Nat} {f : Nat → Int32} {g : Nat → Nat → Int32} {p1 : Int32} {r' : Int32} {f' : Nat → Int32} {g' : Nat → Nat → Int32} (hs : sX3_replicate f g p1 = some (r', f', g')) : rh_Mi l yX3_replicate wsX3_replicate rmX3_replicate G [(cyI, .int), (cyZ, .boolean)] [] (mw cyI cyZ x ad f g) [.ref x, .int p1] r' (mw cyI cyZ x ad f' g') :=
  rh_ofi (by decide +kernel) rfl (Nat.le_of_ble_eq_true rfl) (fun p e s m below meth c A Q X ret ls hl h => bX3_replicate X ret _ _ ls f g p1 h hl hs)
abbrev rmX3_refer : Room := { frames := 2, cells := 0, slots := 0, locals := 46 }
set_option maxRecDepth 100000 in
theorem iX3_refer_X3 : ∀ w ∈ u_ws RX3 TX3 22, w ∈ wsX3_refer := by decide +kernel
def sX3_refer (f : Nat → Int32) (g : Nat → Nat → Int32) (p1 : Int32) (p2 : Int32) : Option (Int32 × (Nat → Int32) × (Nat → Nat → Int32)) := bWi (sX3_replicate f g p2) (fun r1 f2 g3 => bR (sX3_other f2 g3) (fun r5 => lt (1 + r5) (fun z7 => wt 800 p1 (bR (sX3_at  (f2 3) p2) (fun r10 => rd (g3 2) 800 r10 (fun v12 => wt 800 p1 (some ((r1, f2, (ur (ur g3 0 (upd (g3 0) p1.toNatClampNeg z7)) 1 (upd (g3 1) p1.toNatClampNeg v12)))))))))))
set_option maxHeartbeats 4000000 in
set_option maxRecDepth 100000 in
theorem bX3_refer {p : Program} {l : Launch} {e : Env} {s : State} {m : MethodId} {args : Array Value} {below : List Frame} {meth : Method} {c : Code} {Q : State → Prop} {A : Nat → Prop} {G : va_G} {cyI cyZ : ClassId} {x : Nat} {ad : Nat → Nat} (X : rh_X p s m args c cX3_refer 4 RX3 wsX3_refer G [(cyI, .int), (cyZ, .boolean)] [] A) {r' : Int32} {f' : Nat → Int32} {g' : Nat → Nat → Int32} (ret : ∀ (H : Heap) (locs : List Loc) (ls : Array Slot) (pc : Nat), narrow .int (.int r') = .int r' → decode cX3_refer pc = .ok (.ireturn, 1) → rh_W G A s H locs (mw cyI cyZ x ad f' g') → W p l e rmX3_refer s m args below meth c H locs 0 0 Q (F0 m pc ls [.int r'])) : ∀ (H : Heap) (locs : List Loc) (ls : Array Slot) (f : Nat → Int32) (g : Nat → Nat → Int32) (p1 : Int32) (p2 : Int32), rh_W G A s H locs (mw cyI cyZ x ad f g) → lv_has ls 4 [(0, .ref x), (1, .int p1), (2, .int p2)] → sX3_refer f g p1 p2 = some (r', f', g') → W p l e rmX3_refer s m args below meth c H locs 0 0 Q (F0 m 0 ls []) := by
  have hx := X.1
  have hb := X.2.1
  have hown := X.2.2.2.1
  have hts := X.2.2.2.2.1
  have hK := X.2.2.2.2.2.1
  have hNN := X.2.2.2.2.2.2.1.2
  intro H locs ls f g p1 p2 h hl hs
  unfold sX3_refer at hs
  refine lv_aload_n hx hb dX3_refer_0 rfl (lv_at hl 0 rfl) ?_
  refine lv_iload_n hx hb dX3_refer_1 rfl (lv_at hl 2 rfl) ?_
  obtain ⟨r1, f2, g3, h4, hs⟩ := bWi_some hs
  refine rh_Vi X h (kX3_replicate l G (cyI := cyI) (cyZ := cyZ) (x := x) (ad := ad) h4) (cwV 1 hts gX3_refer_X3_replicate rfl rfl rfl (by decide +kernel) ⟨Nat.le_of_ble_eq_true rfl, Nat.le_of_ble_eq_true rfl⟩) (va_recv hK h.1 (ci := 3) (q0 := 0) rfl rfl) rfl hl.1 rfl (Nat.le_of_ble_eq_true rfl) dX3_refer_2 ⟨Nat.zero_le _, Nat.zero_le _⟩ (fun H locs h => ?_)
  refine lv_istore_n (lv' := [(3, .int r1), (0, .ref x), (1, .int p1), (2, .int p2)]) hx hb dX3_refer_5 rfl hl (by decide) rfl (fun ls hl => ?_)
  refine lv_aload_n hx hb dX3_refer_6 rfl (lv_at hl 1 rfl) ?_
  refine rh_get X h (v := .ref (ad 1)) iX3_refer_X3 0 3 rfl rfl (by decide) (by decide +kernel) rfl dX3_refer_7 ?_
  refine lv_iload_n hx hb dX3_refer_10 rfl (lv_at hl 2 rfl) ?_
  refine lv_iconst (v := 1) hx hb dX3_refer_11 (by decide) ?_
  refine lv_aload_n hx hb dX3_refer_12 rfl (lv_at hl 1 rfl) ?_
  obtain ⟨r5, h6, hs⟩ := bR_some hs
  refine rh_Vi X h (kX3_other l G (cyI := cyI) (cyZ := cyZ) (x := x) (ad := ad) h6) (cwV 0 hts gX3_refer_X3_other rfl rfl rfl (by decide +kernel) ⟨Nat.le_of_ble_eq_true rfl, Nat.le_of_ble_eq_true rfl⟩) (va_recv hK h.1 (ci := 3) (q0 := 0) rfl rfl) rfl hl.1 rfl (Nat.le_of_ble_eq_true rfl) dX3_refer_13 ⟨Nat.zero_le _, Nat.zero_le _⟩ (fun H locs h => ?_)
  refine lv_iadd hx hb dX3_refer_16 ?_
  obtain ⟨z7, e8, hs⟩ := lt_some hs
  refine rh_top e8 ?_
  obtain ⟨i9, hs⟩ := wt_some hs
  refine rh_iast X h 1 0 rfl rfl i9 dX3_refer_17 (fun H locs h => ?_)
  have h : rh_W G A s H locs (mw cyI cyZ x ad f2 (ur g3 0 (upd (g3 0) p1.toNatClampNeg z7))) := mr_0 h
  refine lv_aload_n hx hb dX3_refer_18 rfl (lv_at hl 1 rfl) ?_
  refine rh_get X h (v := .ref (ad 2)) iX3_refer_X3 0 4 rfl rfl (by decide) (by decide +kernel) rfl dX3_refer_19 ?_
  refine lv_iload_n hx hb dX3_refer_22 rfl (lv_at hl 2 rfl) ?_
  refine lv_aload_n hx hb dX3_refer_23 rfl (lv_at hl 1 rfl) ?_
  refine rh_get X h (v := .ref (ad 3)) iX3_refer_X3 0 5 rfl rfl (by decide) (by decide +kernel) rfl dX3_refer_24 ?_
  refine lv_aload_n hx hb dX3_refer_27 rfl (lv_at hl 1 rfl) ?_
  refine rh_get X h (v := .int (f2 3)) iX3_refer_X3 0 7 rfl rfl (by decide) (by decide +kernel) rfl dX3_refer_28 ?_
  refine lv_iload_n hx hb dX3_refer_31 rfl (lv_at hl 3 rfl) ?_
  obtain ⟨r10, h11, hs⟩ := bR_some hs
  refine rh_Si X h (kX3_at l G h11) (va_cwS 2 hts gX3_refer_X3_at rfl rfl rfl (by decide +kernel) ⟨Nat.le_of_ble_eq_true rfl, Nat.le_of_ble_eq_true rfl⟩) rfl hl.1 rfl (Nat.le_of_ble_eq_true rfl) dX3_refer_32 ⟨Nat.zero_le _, Nat.zero_le _⟩ (fun H locs h => ?_)
  obtain ⟨i14, v12, e13, hs⟩ := rd_some hs
  refine rh_iald X h 3 0 rfl rfl i14 e13 dX3_refer_35 ?_
  obtain ⟨i15, hs⟩ := wt_some hs
  refine rh_iast X h 2 0 rfl rfl i15 dX3_refer_36 (fun H locs h => ?_)
  have h : rh_W G A s H locs (mw cyI cyZ x ad f2 (ur (ur g3 0 (upd (g3 0) p1.toNatClampNeg z7)) 1 (upd (g3 1) p1.toNatClampNeg v12))) := mr_1 h
  refine lv_iload_n hx hb dX3_refer_37 rfl (lv_at hl 0 rfl) ?_
  cases hs
  exact ret _ _ _ _ rfl dX3_refer_38 h
theorem kX3_refer (l : Launch) (G : va_G) {cyI cyZ : ClassId} {x : Nat} {ad : Nat → Nat} {f : Nat → Int32} {g : Nat → Nat → Int32} {p1 : Int32} {p2 : Int32} {r' : Int32} {f' : Nat → Int32} {g' : Nat → Nat → Int32} (hs : sX3_refer f g p1 p2 = some (r', f', g')) : rh_Mi l yX3_refer wsX3_refer rmX3_refer G [(cyI, .int), (cyZ, .boolean)] [] (mw cyI cyZ x ad f g) [.ref x, .int p1, .int p2] r' (mw cyI cyZ x ad f' g') :=
  rh_ofi (by decide +kernel) rfl (Nat.le_of_ble_eq_true rfl) (fun p e s m below meth c A Q X ret ls hl h => bX3_refer X ret _ _ ls f g p1 p2 h hl hs)
abbrev rmX3_take : Room := { frames := 3, cells := 0, slots := 0, locals := 69 }
set_option maxRecDepth 100000 in
theorem iX3_take_X3 : ∀ w ∈ u_ws RX3 TX3 22, w ∈ wsX3_take := by decide +kernel
def sX3_take (f : Nat → Int32) (g : Nat → Nat → Int32) : Option (Int32 × (Nat → Int32) × (Nat → Nat → Int32)) := rd (g 6) 4096 (f 7) (fun v1 => rd (g 7) 4096 (f 7) (fun v4 => lt ((f 7) + 1) (fun z7 => bR (sX3_at  (f 3) v1) (fun r9 => rd (g 2) 800 r9 (fun v11 => if v11 = (-1) then (some ((1, (upd f 7 z7), g))) else (bR (sX3_other (upd f 7 z7) g) (fun r15 => rd (g 2) 800 r9 (fun v17 => bR (sX3_at  r15 v17) (fun r20 => rd (g 0) 800 ((r9 + 1) + v4) (fun v22 => if v22 = 0 then (wt 800 ((r20 + 1) + v4) (rd (g 1) 800 ((r9 + 1) + v4) (fun v27 => wt 800 ((r20 + 1) + v4) (some ((1, (upd f 7 z7), (ur (ur g 0 (upd (g 0) ((r20 + 1) + v4).toNatClampNeg 0)) 1 (upd (g 1) ((r20 + 1) + v4).toNatClampNeg v27)))))))) else (rd (g 1) 800 ((r9 + 1) + v4) (fun v31 => bWi (sX3_refer (upd f 7 z7) g ((r20 + 1) + v4) v31) (fun r34 f35 g36 => some ((1 + r34, f35, g36)))))))))))))))
set_option maxHeartbeats 4000000 in
set_option maxRecDepth 100000 in
theorem bX3_take {p : Program} {l : Launch} {e : Env} {s : State} {m : MethodId} {args : Array Value} {below : List Frame} {meth : Method} {c : Code} {Q : State → Prop} {A : Nat → Prop} {G : va_G} {cyI cyZ : ClassId} {x : Nat} {ad : Nat → Nat} (X : rh_X p s m args c cX3_take 5 RX3 wsX3_take G [(cyI, .int), (cyZ, .boolean)] [] A) {r' : Int32} {f' : Nat → Int32} {g' : Nat → Nat → Int32} (ret : ∀ (H : Heap) (locs : List Loc) (ls : Array Slot) (pc : Nat), narrow .int (.int r') = .int r' → decode cX3_take pc = .ok (.ireturn, 1) → rh_W G A s H locs (mw cyI cyZ x ad f' g') → W p l e rmX3_take s m args below meth c H locs 0 0 Q (F0 m pc ls [.int r'])) : ∀ (H : Heap) (locs : List Loc) (ls : Array Slot) (f : Nat → Int32) (g : Nat → Nat → Int32), rh_W G A s H locs (mw cyI cyZ x ad f g) → lv_has ls 5 [(0, .ref x)] → sX3_take f g = some (r', f', g') → W p l e rmX3_take s m args below meth c H locs 0 0 Q (F0 m 0 ls []) := by
  have hx := X.1
  have hb := X.2.1
  have hown := X.2.2.2.1
  have hts := X.2.2.2.2.1
  have hK := X.2.2.2.2.2.1
  have hNN := X.2.2.2.2.2.2.1.2
  intro H locs ls f g h hl hs
  unfold sX3_take at hs
  refine lv_aload_n hx hb dX3_take_0 rfl (lv_at hl 0 rfl) ?_
  refine rh_get X h (v := .ref (ad 7)) iX3_take_X3 0 14 rfl rfl (by decide) (by decide +kernel) rfl dX3_take_1 ?_
  refine lv_aload_n hx hb dX3_take_4 rfl (lv_at hl 0 rfl) ?_
  refine rh_get X h (v := .int (f 7)) iX3_take_X3 0 13 rfl rfl (by decide) (by decide +kernel) rfl dX3_take_5 ?_
  obtain ⟨i3, v1, e2, hs⟩ := rd_some hs
  refine rh_iald X h 7 0 rfl rfl i3 e2 dX3_take_8 ?_
  refine lv_istore_n (lv' := [(1, .int v1), (0, .ref x)]) hx hb dX3_take_9 rfl hl (by decide) rfl (fun ls hl => ?_)
  refine lv_aload_n hx hb dX3_take_10 rfl (lv_at hl 1 rfl) ?_
  refine rh_get X h (v := .ref (ad 8)) iX3_take_X3 0 15 rfl rfl (by decide) (by decide +kernel) rfl dX3_take_11 ?_
  refine lv_aload_n hx hb dX3_take_14 rfl (lv_at hl 1 rfl) ?_
  refine rh_get X h (v := .int (f 7)) iX3_take_X3 0 13 rfl rfl (by decide) (by decide +kernel) rfl dX3_take_15 ?_
  obtain ⟨i6, v4, e5, hs⟩ := rd_some hs
  refine rh_iald X h 8 0 rfl rfl i6 e5 dX3_take_18 ?_
  refine lv_istore_n (lv' := [(2, .int v4), (1, .int v1), (0, .ref x)]) hx hb dX3_take_19 rfl hl (by decide) rfl (fun ls hl => ?_)
  refine lv_aload_n hx hb dX3_take_20 rfl (lv_at hl 2 rfl) ?_
  refine lv_dup hx hb dX3_take_21 rfl ?_
  refine rh_get X h (v := .int (f 7)) iX3_take_X3 0 13 rfl rfl (by decide) (by decide +kernel) rfl dX3_take_22 ?_
  refine lv_iconst (v := 1) hx hb dX3_take_25 (by decide) ?_
  refine lv_iadd hx hb dX3_take_26 ?_
  obtain ⟨z7, e8, hs⟩ := lt_some hs
  refine rh_top e8 ?_
  refine rh_put X h iX3_take_X3 tyX3 tyX3_ok nmX3 0 13 rfl rfl (by decide) (by decide +kernel) rfl rfl rfl (Nat.le_of_ble_eq_true rfl) dX3_take_27 (fun H locs h => ?_)
  have h : rh_W G A s H locs (mw cyI cyZ x ad (upd f 7 z7) g) := mp_7 h
  refine lv_aload_n hx hb dX3_take_30 rfl (lv_at hl 2 rfl) ?_
  refine rh_get X h (v := .int (f 3)) iX3_take_X3 0 7 rfl rfl (by decide) (by decide +kernel) rfl dX3_take_31 ?_
  refine lv_iload_n hx hb dX3_take_34 rfl (lv_at hl 1 rfl) ?_
  obtain ⟨r9, h10, hs⟩ := bR_some hs
  refine rh_Si X h (kX3_at l G h10) (va_cwS 2 hts gX3_take_X3_at rfl rfl rfl (by decide +kernel) ⟨Nat.le_of_ble_eq_true rfl, Nat.le_of_ble_eq_true rfl⟩) rfl hl.1 rfl (Nat.le_of_ble_eq_true rfl) dX3_take_35 ⟨Nat.zero_le _, Nat.zero_le _⟩ (fun H locs h => ?_)
  refine lv_istore_n (lv' := [(3, .int r9), (2, .int v4), (1, .int v1), (0, .ref x)]) hx hb dX3_take_38 rfl hl (by decide) rfl (fun ls hl => ?_)
  refine lv_aload_n hx hb dX3_take_39 rfl (lv_at hl 3 rfl) ?_
  refine rh_get X h (v := .ref (ad 3)) iX3_take_X3 0 5 rfl rfl (by decide) (by decide +kernel) rfl dX3_take_40 ?_
  refine lv_iload_n hx hb dX3_take_43 rfl (lv_at hl 0 rfl) ?_
  obtain ⟨i13, v11, e12, hs⟩ := rd_some hs
  refine rh_iald X h 3 0 rfl rfl i13 e12 dX3_take_44 ?_
  refine lv_iconst (v := (-1)) hx hb dX3_take_45 (by decide) ?_
  refine lv_icmp_ne (tgt := 51) hx hb dX3_take_46 (by decide) (fun c14 => ?_) (fun c14 => ?_)
  · have hs := ite_n c14 hs
    refine lv_aload_n hx hb dX3_take_51 rfl (lv_at hl 3 rfl) ?_
    obtain ⟨r15, h16, hs⟩ := bR_some hs
    refine rh_Vi X h (kX3_other l G (cyI := cyI) (cyZ := cyZ) (x := x) (ad := ad) h16) (cwV 0 hts gX3_take_X3_other rfl rfl rfl (by decide +kernel) ⟨Nat.le_of_ble_eq_true rfl, Nat.le_of_ble_eq_true rfl⟩) (va_recv hK h.1 (ci := 3) (q0 := 0) rfl rfl) rfl hl.1 rfl (Nat.le_of_ble_eq_true rfl) dX3_take_52 ⟨Nat.zero_le _, Nat.zero_le _⟩ (fun H locs h => ?_)
    refine lv_aload_n hx hb dX3_take_55 rfl (lv_at hl 3 rfl) ?_
    refine rh_get X h (v := .ref (ad 3)) iX3_take_X3 0 5 rfl rfl (by decide) (by decide +kernel) rfl dX3_take_56 ?_
    refine lv_iload_n hx hb dX3_take_59 rfl (lv_at hl 0 rfl) ?_
    obtain ⟨i19, v17, e18, hs⟩ := rd_some hs
    refine rh_iald X h 3 0 rfl rfl i19 e18 dX3_take_60 ?_
    obtain ⟨r20, h21, hs⟩ := bR_some hs
    refine rh_Si X h (kX3_at l G h21) (va_cwS 2 hts gX3_take_X3_at rfl rfl rfl (by decide +kernel) ⟨Nat.le_of_ble_eq_true rfl, Nat.le_of_ble_eq_true rfl⟩) rfl hl.1 rfl (Nat.le_of_ble_eq_true rfl) dX3_take_61 ⟨Nat.zero_le _, Nat.zero_le _⟩ (fun H locs h => ?_)
    refine lv_iconst (v := 1) hx hb dX3_take_64 (by decide) ?_
    refine lv_iadd hx hb dX3_take_65 ?_
    refine lv_iload_n hx hb dX3_take_66 rfl (lv_at hl 1 rfl) ?_
    refine lv_iadd hx hb dX3_take_67 ?_
    refine lv_istore (lv' := [(4, .int ((r20 + 1) + v4)), (3, .int r9), (2, .int v4), (1, .int v1), (0, .ref x)]) hx hb dX3_take_68 hl (by decide) rfl (fun ls hl => ?_)
    refine lv_aload_n hx hb dX3_take_70 rfl (lv_at hl 4 rfl) ?_
    refine rh_get X h (v := .ref (ad 1)) iX3_take_X3 0 3 rfl rfl (by decide) (by decide +kernel) rfl dX3_take_71 ?_
    refine lv_iload_n hx hb dX3_take_74 rfl (lv_at hl 1 rfl) ?_
    refine lv_iconst (v := 1) hx hb dX3_take_75 (by decide) ?_
    refine lv_iadd hx hb dX3_take_76 ?_
    refine lv_iload_n hx hb dX3_take_77 rfl (lv_at hl 2 rfl) ?_
    refine lv_iadd hx hb dX3_take_78 ?_
    obtain ⟨i24, v22, e23, hs⟩ := rd_some hs
    refine rh_iald X h 1 0 rfl rfl i24 e23 dX3_take_79 ?_
    refine lv_if_eq (tgt := 102) hx hb dX3_take_80 (by decide) (fun c25 => ?_) (fun c25 => ?_)
    · have hs := ite_p c25 hs
      refine lv_aload_n hx hb dX3_take_102 rfl (lv_at hl 4 rfl) ?_
      refine rh_get X h (v := .ref (ad 1)) iX3_take_X3 0 3 rfl rfl (by decide) (by decide +kernel) rfl dX3_take_103 ?_
      refine lv_iload hx hb dX3_take_106 (lv_at hl 0 rfl) ?_
      refine lv_iconst (v := 0) hx hb dX3_take_108 (by decide) ?_
      obtain ⟨i26, hs⟩ := wt_some hs
      refine rh_iast X h 1 0 rfl rfl i26 dX3_take_109 (fun H locs h => ?_)
      have h : rh_W G A s H locs (mw cyI cyZ x ad (upd f 7 z7) (ur g 0 (upd (g 0) ((r20 + 1) + v4).toNatClampNeg 0))) := mr_0 h
      refine lv_aload_n hx hb dX3_take_110 rfl (lv_at hl 4 rfl) ?_
      refine rh_get X h (v := .ref (ad 2)) iX3_take_X3 0 4 rfl rfl (by decide) (by decide +kernel) rfl dX3_take_111 ?_
      refine lv_iload hx hb dX3_take_114 (lv_at hl 0 rfl) ?_
      refine lv_aload_n hx hb dX3_take_116 rfl (lv_at hl 4 rfl) ?_
      refine rh_get X h (v := .ref (ad 2)) iX3_take_X3 0 4 rfl rfl (by decide) (by decide +kernel) rfl dX3_take_117 ?_
      refine lv_iload_n hx hb dX3_take_120 rfl (lv_at hl 1 rfl) ?_
      refine lv_iconst (v := 1) hx hb dX3_take_121 (by decide) ?_
      refine lv_iadd hx hb dX3_take_122 ?_
      refine lv_iload_n hx hb dX3_take_123 rfl (lv_at hl 2 rfl) ?_
      refine lv_iadd hx hb dX3_take_124 ?_
      obtain ⟨i29, v27, e28, hs⟩ := rd_some hs
      refine rh_iald X h 2 0 rfl rfl i29 e28 dX3_take_125 ?_
      obtain ⟨i30, hs⟩ := wt_some hs
      refine rh_iast X h 2 0 rfl rfl i30 dX3_take_126 (fun H locs h => ?_)
      have h : rh_W G A s H locs (mw cyI cyZ x ad (upd f 7 z7) (ur (ur g 0 (upd (g 0) ((r20 + 1) + v4).toNatClampNeg 0)) 1 (upd (g 1) ((r20 + 1) + v4).toNatClampNeg v27))) := mr_1 h
      refine lv_iconst (v := 1) hx hb dX3_take_127 (by decide) ?_
      cases hs
      exact ret _ _ _ _ rfl dX3_take_128 h
    · have hs := ite_n c25 hs
      refine lv_iconst (v := 1) hx hb dX3_take_83 (by decide) ?_
      refine lv_aload_n hx hb dX3_take_84 rfl (lv_at hl 4 rfl) ?_
      refine lv_iload hx hb dX3_take_85 (lv_at hl 0 rfl) ?_
      refine lv_aload_n hx hb dX3_take_87 rfl (lv_at hl 4 rfl) ?_
      refine rh_get X h (v := .ref (ad 2)) iX3_take_X3 0 4 rfl rfl (by decide) (by decide +kernel) rfl dX3_take_88 ?_
      refine lv_iload_n hx hb dX3_take_91 rfl (lv_at hl 1 rfl) ?_
      refine lv_iconst (v := 1) hx hb dX3_take_92 (by decide) ?_
      refine lv_iadd hx hb dX3_take_93 ?_
      refine lv_iload_n hx hb dX3_take_94 rfl (lv_at hl 2 rfl) ?_
      refine lv_iadd hx hb dX3_take_95 ?_
      obtain ⟨i33, v31, e32, hs⟩ := rd_some hs
      refine rh_iald X h 2 0 rfl rfl i33 e32 dX3_take_96 ?_
      obtain ⟨r34, f35, g36, h37, hs⟩ := bWi_some hs
      refine rh_Vi X h (kX3_refer l G (cyI := cyI) (cyZ := cyZ) (x := x) (ad := ad) h37) (cwV 2 hts gX3_take_X3_refer rfl rfl rfl (by decide +kernel) ⟨Nat.le_of_ble_eq_true rfl, Nat.le_of_ble_eq_true rfl⟩) (va_recv hK h.1 (ci := 3) (q0 := 0) rfl rfl) rfl hl.1 rfl (Nat.le_of_ble_eq_true rfl) dX3_take_97 ⟨Nat.zero_le _, Nat.zero_le _⟩ (fun H locs h => ?_)
      refine lv_iadd hx hb dX3_take_100 ?_
      cases hs
      exact ret _ _ _ _ rfl dX3_take_101 h
  · have hs := ite_p c14 hs
    refine lv_iconst (v := 1) hx hb dX3_take_49 (by decide) ?_
    cases hs
    exact ret _ _ _ _ rfl dX3_take_50 h
theorem kX3_take (l : Launch) (G : va_G) {cyI cyZ : ClassId} {x : Nat} {ad : Nat → Nat} {f : Nat → Int32} {g : Nat → Nat → Int32} {r' : Int32} {f' : Nat → Int32} {g' : Nat → Nat → Int32} (hs : sX3_take f g = some (r', f', g')) : rh_Mi l yX3_take wsX3_take rmX3_take G [(cyI, .int), (cyZ, .boolean)] [] (mw cyI cyZ x ad f g) [.ref x] r' (mw cyI cyZ x ad f' g') :=
  rh_ofi (by decide +kernel) rfl (Nat.le_of_ble_eq_true rfl) (fun p e s m below meth c A Q X ret ls hl h => bX3_take X ret _ _ ls f g h hl hs)
abbrev rmX3_look : Room := { frames := 3, cells := 0, slots := 0, locals := 69 }
set_option maxRecDepth 100000 in
theorem iX3_look_X3 : ∀ w ∈ u_ws RX3 TX3 22, w ∈ wsX3_look := by decide +kernel
def sX3_look (f : Nat → Int32) (g : Nat → Nat → Int32) : Option (Int32 × (Nat → Int32) × (Nat → Nat → Int32)) := bR (sX3_other f g) (fun r1 => bR (sX3_at  r1 (f 5)) (fun r3 => lt ((f 5) + 1) (fun z5 => rd (g 0) 800 r3 (fun v7 => if v7 = (1 + (f 3)) then (rd (g 1) 800 r3 (fun v11 => bWi (sX3_refer (upd f 5 z5) g r3 v11) (fun r14 f15 g16 => some ((1 + r14, f15, g16))))) else (some ((1 + 0, (upd f 5 z5), g)))))))
set_option maxHeartbeats 4000000 in
set_option maxRecDepth 100000 in
theorem bX3_look {p : Program} {l : Launch} {e : Env} {s : State} {m : MethodId} {args : Array Value} {below : List Frame} {meth : Method} {c : Code} {Q : State → Prop} {A : Nat → Prop} {G : va_G} {cyI cyZ : ClassId} {x : Nat} {ad : Nat → Nat} (X : rh_X p s m args c cX3_look 2 RX3 wsX3_look G [(cyI, .int), (cyZ, .boolean)] [] A) {r' : Int32} {f' : Nat → Int32} {g' : Nat → Nat → Int32} (ret : ∀ (H : Heap) (locs : List Loc) (ls : Array Slot) (pc : Nat), narrow .int (.int r') = .int r' → decode cX3_look pc = .ok (.ireturn, 1) → rh_W G A s H locs (mw cyI cyZ x ad f' g') → W p l e rmX3_look s m args below meth c H locs 0 0 Q (F0 m pc ls [.int r'])) : ∀ (H : Heap) (locs : List Loc) (ls : Array Slot) (f : Nat → Int32) (g : Nat → Nat → Int32), rh_W G A s H locs (mw cyI cyZ x ad f g) → lv_has ls 2 [(0, .ref x)] → sX3_look f g = some (r', f', g') → W p l e rmX3_look s m args below meth c H locs 0 0 Q (F0 m 0 ls []) := by
  have hx := X.1
  have hb := X.2.1
  have hown := X.2.2.2.1
  have hts := X.2.2.2.2.1
  have hK := X.2.2.2.2.2.1
  have hNN := X.2.2.2.2.2.2.1.2
  intro H locs ls f g h hl hs
  unfold sX3_look at hs
  refine lv_aload_n hx hb dX3_look_0 rfl (lv_at hl 0 rfl) ?_
  obtain ⟨r1, h2, hs⟩ := bR_some hs
  refine rh_Vi X h (kX3_other l G (cyI := cyI) (cyZ := cyZ) (x := x) (ad := ad) h2) (cwV 0 hts gX3_look_X3_other rfl rfl rfl (by decide +kernel) ⟨Nat.le_of_ble_eq_true rfl, Nat.le_of_ble_eq_true rfl⟩) (va_recv hK h.1 (ci := 3) (q0 := 0) rfl rfl) rfl hl.1 rfl (Nat.le_of_ble_eq_true rfl) dX3_look_1 ⟨Nat.zero_le _, Nat.zero_le _⟩ (fun H locs h => ?_)
  refine lv_aload_n hx hb dX3_look_4 rfl (lv_at hl 0 rfl) ?_
  refine rh_get X h (v := .int (f 5)) iX3_look_X3 0 11 rfl rfl (by decide) (by decide +kernel) rfl dX3_look_5 ?_
  obtain ⟨r3, h4, hs⟩ := bR_some hs
  refine rh_Si X h (kX3_at l G h4) (va_cwS 2 hts gX3_look_X3_at rfl rfl rfl (by decide +kernel) ⟨Nat.le_of_ble_eq_true rfl, Nat.le_of_ble_eq_true rfl⟩) rfl hl.1 rfl (Nat.le_of_ble_eq_true rfl) dX3_look_8 ⟨Nat.zero_le _, Nat.zero_le _⟩ (fun H locs h => ?_)
  refine lv_istore_n (lv' := [(1, .int r3), (0, .ref x)]) hx hb dX3_look_11 rfl hl (by decide) rfl (fun ls hl => ?_)
  refine lv_aload_n hx hb dX3_look_12 rfl (lv_at hl 1 rfl) ?_
  refine lv_dup hx hb dX3_look_13 rfl ?_
  refine rh_get X h (v := .int (f 5)) iX3_look_X3 0 11 rfl rfl (by decide) (by decide +kernel) rfl dX3_look_14 ?_
  refine lv_iconst (v := 1) hx hb dX3_look_17 (by decide) ?_
  refine lv_iadd hx hb dX3_look_18 ?_
  obtain ⟨z5, e6, hs⟩ := lt_some hs
  refine rh_top e6 ?_
  refine rh_put X h iX3_look_X3 tyX3 tyX3_ok nmX3 0 11 rfl rfl (by decide) (by decide +kernel) rfl rfl rfl (Nat.le_of_ble_eq_true rfl) dX3_look_19 (fun H locs h => ?_)
  have h : rh_W G A s H locs (mw cyI cyZ x ad (upd f 5 z5) g) := mp_5 h
  refine lv_iconst (v := 1) hx hb dX3_look_22 (by decide) ?_
  refine lv_aload_n hx hb dX3_look_23 rfl (lv_at hl 1 rfl) ?_
  refine rh_get X h (v := .ref (ad 1)) iX3_look_X3 0 3 rfl rfl (by decide) (by decide +kernel) rfl dX3_look_24 ?_
  refine lv_iload_n hx hb dX3_look_27 rfl (lv_at hl 0 rfl) ?_
  obtain ⟨i9, v7, e8, hs⟩ := rd_some hs
  refine rh_iald X h 1 0 rfl rfl i9 e8 dX3_look_28 ?_
  refine lv_iconst (v := 1) hx hb dX3_look_29 (by decide) ?_
  refine lv_aload_n hx hb dX3_look_30 rfl (lv_at hl 1 rfl) ?_
  refine rh_get X h (v := .int (f 3)) iX3_look_X3 0 7 rfl rfl (by decide) (by decide +kernel) rfl dX3_look_31 ?_
  refine lv_iadd hx hb dX3_look_34 ?_
  refine lv_icmp_ne (tgt := 52) hx hb dX3_look_35 (by decide) (fun c10 => ?_) (fun c10 => ?_)
  · have hs := ite_n c10 hs
    refine lv_iconst (v := 0) hx hb dX3_look_52 (by decide) ?_
    refine lv_iadd hx hb dX3_look_53 ?_
    cases hs
    exact ret _ _ _ _ rfl dX3_look_54 h
  · have hs := ite_p c10 hs
    refine lv_aload_n hx hb dX3_look_38 rfl (lv_at hl 1 rfl) ?_
    refine lv_iload_n hx hb dX3_look_39 rfl (lv_at hl 0 rfl) ?_
    refine lv_aload_n hx hb dX3_look_40 rfl (lv_at hl 1 rfl) ?_
    refine rh_get X h (v := .ref (ad 2)) iX3_look_X3 0 4 rfl rfl (by decide) (by decide +kernel) rfl dX3_look_41 ?_
    refine lv_iload_n hx hb dX3_look_44 rfl (lv_at hl 0 rfl) ?_
    obtain ⟨i13, v11, e12, hs⟩ := rd_some hs
    refine rh_iald X h 2 0 rfl rfl i13 e12 dX3_look_45 ?_
    obtain ⟨r14, f15, g16, h17, hs⟩ := bWi_some hs
    refine rh_Vi X h (kX3_refer l G (cyI := cyI) (cyZ := cyZ) (x := x) (ad := ad) h17) (cwV 2 hts gX3_look_X3_refer rfl rfl rfl (by decide +kernel) ⟨Nat.le_of_ble_eq_true rfl, Nat.le_of_ble_eq_true rfl⟩) (va_recv hK h.1 (ci := 3) (q0 := 0) rfl rfl) rfl hl.1 rfl (Nat.le_of_ble_eq_true rfl) dX3_look_46 ⟨Nat.zero_le _, Nat.zero_le _⟩ (fun H locs h => ?_)
    refine lv_goto (tgt := 53) hx hb dX3_look_49 (by decide) ?_
    refine lv_iadd hx hb dX3_look_53 ?_
    cases hs
    exact ret _ _ _ _ rfl dX3_look_54 h
theorem kX3_look (l : Launch) (G : va_G) {cyI cyZ : ClassId} {x : Nat} {ad : Nat → Nat} {f : Nat → Int32} {g : Nat → Nat → Int32} {r' : Int32} {f' : Nat → Int32} {g' : Nat → Nat → Int32} (hs : sX3_look f g = some (r', f', g')) : rh_Mi l yX3_look wsX3_look rmX3_look G [(cyI, .int), (cyZ, .boolean)] [] (mw cyI cyZ x ad f g) [.ref x] r' (mw cyI cyZ x ad f' g') :=
  rh_ofi (by decide +kernel) rfl (Nat.le_of_ble_eq_true rfl) (fun p e s m below meth c A Q X ret ls hl h => bX3_look X ret _ _ ls f g h hl hs)
abbrev rmX3_nextRoot : Room := { frames := 1, cells := 0, slots := 0, locals := 21 }
set_option maxRecDepth 100000 in
theorem iX3_nextRoot_X3 : ∀ w ∈ u_ws RX3 TX3 22, w ∈ wsX3_nextRoot := by decide +kernel
def sX3_nextRoot_2 : Nat → (Nat → Int32) → (Nat → Nat → Int32) → Int32 → Option Int32
  | 0, _, _, _ => none
  | k + 1, f, g, v1 => if 16 ≤ v1 then (some v1) else (rd (g 4) 16 v1 (fun v2 => if v2 = 0 then (sX3_nextRoot_2 k f g (v1 + 1)) else (rd (g 4) 16 v1 (fun v6 => if v6 = 0 then (bR (sX3_at  (f 3) 0) (fun r10 => rd (g 2) 800 r10 (fun v12 => if v12 = (-1) then (some v1) else (sX3_nextRoot_2 k f g (v1 + 1))))) else (rd (g 5) 16 v1 (fun v16 => bR (sX3_at  (f 3) v16) (fun r19 => rd (g 2) 800 r19 (fun v21 => if v21 = (-1) then (some v1) else (sX3_nextRoot_2 k f g (v1 + 1))))))))))
set_option maxHeartbeats 4000000 in
set_option maxRecDepth 100000 in
theorem bX3_nextRoot_2 {p : Program} {l : Launch} {e : Env} {s : State} {m : MethodId} {args : Array Value} {below : List Frame} {meth : Method} {c : Code} {Q : State → Prop} {A : Nat → Prop} {G : va_G} {cyI cyZ : ClassId} {x : Nat} {ad : Nat → Nat} {f : Nat → Int32} {g : Nat → Nat → Int32} (X : rh_X p s m args c cX3_nextRoot 2 RX3 wsX3_nextRoot G [(cyI, .int), (cyZ, .boolean)] [] A) {r' : Int32} (ret : ∀ (H : Heap) (locs : List Loc) (ls : Array Slot) (pc : Nat), narrow .int (.int r') = .int r' → decode cX3_nextRoot pc = .ok (.ireturn, 1) → rh_W G A s H locs (mw cyI cyZ x ad f g) → W p l e rmX3_nextRoot s m args below meth c H locs 0 0 Q (F0 m pc ls [.int r'])) : ∀ k : Nat, ∀ (H : Heap) (locs : List Loc) (ls : Array Slot) (v1 : Int32), rh_W G A s H locs (mw cyI cyZ x ad f g) → lv_has ls 2 [(0, .ref x), (1, .int v1)] → sX3_nextRoot_2 k f g v1 = some r' → W p l e rmX3_nextRoot s m args below meth c H locs 0 0 Q (F0 m 2 ls []) := by
  have hx := X.1
  have hb := X.2.1
  have hown := X.2.2.2.1
  have hts := X.2.2.2.2.1
  have hK := X.2.2.2.2.2.1
  have hNN := X.2.2.2.2.2.2.1.2
  intro k
  induction k with
  | zero => intro H locs ls v1 h hl hs; cases hs
  | succ k ih =>
    intro H locs ls v1 h hl hs
    simp only [sX3_nextRoot_2] at hs
    refine lv_iload_n hx hb dX3_nextRoot_2 rfl (lv_at hl 1 rfl) ?_
    refine lv_bipush (v := 16) hx hb dX3_nextRoot_3 (by decide) ?_
    refine lv_icmp_ge (tgt := 58) hx hb dX3_nextRoot_5 (by decide) (fun c1 => ?_) (fun c1 => ?_)
    · have hs := ite_p c1 hs
      refine lv_iload_n hx hb dX3_nextRoot_58 rfl (lv_at hl 1 rfl) ?_
      cases hs
      exact ret _ _ _ _ rfl dX3_nextRoot_59 h
    · have hs := ite_n c1 hs
      refine lv_aload_n hx hb dX3_nextRoot_8 rfl (lv_at hl 0 rfl) ?_
      refine rh_get X h (v := .ref (ad 5)) iX3_nextRoot_X3 0 8 rfl rfl (by decide) (by decide +kernel) rfl dX3_nextRoot_9 ?_
      refine lv_iload_n hx hb dX3_nextRoot_12 rfl (lv_at hl 1 rfl) ?_
      obtain ⟨i4, v2, e3, hs⟩ := rd_some hs
      refine rh_zald X h 5 1 rfl rfl i4 e3 dX3_nextRoot_13 ?_
      refine lv_if_eq (tgt := 52) hx hb dX3_nextRoot_14 (by decide) (fun c5 => ?_) (fun c5 => ?_)
      · have hs := ite_p c5 hs
        refine lv_iinc (v := v1 + 1) (lv' := [(1, .int (v1 + 1)), (0, .ref x)]) hx hb dX3_nextRoot_52 hl (k := 1) rfl rfl (by decide) rfl (fun ls hl => ?_)
        refine lv_goto (tgt := 2) hx hb dX3_nextRoot_55 (by decide) ?_
        exact ih _ _ _  (v1 + 1) h (lv_sub hl [1, 0] rfl) hs
      · have hs := ite_n c5 hs
        refine lv_aload_n hx hb dX3_nextRoot_17 rfl (lv_at hl 0 rfl) ?_
        refine rh_get X h (v := .ref (ad 3)) iX3_nextRoot_X3 0 5 rfl rfl (by decide) (by decide +kernel) rfl dX3_nextRoot_18 ?_
        refine lv_aload_n hx hb dX3_nextRoot_21 rfl (lv_at hl 0 rfl) ?_
        refine rh_get X h (v := .int (f 3)) iX3_nextRoot_X3 0 7 rfl rfl (by decide) (by decide +kernel) rfl dX3_nextRoot_22 ?_
        refine lv_aload_n hx hb dX3_nextRoot_25 rfl (lv_at hl 0 rfl) ?_
        refine rh_get X h (v := .ref (ad 5)) iX3_nextRoot_X3 0 8 rfl rfl (by decide) (by decide +kernel) rfl dX3_nextRoot_26 ?_
        refine lv_iload_n hx hb dX3_nextRoot_29 rfl (lv_at hl 1 rfl) ?_
        obtain ⟨i8, v6, e7, hs⟩ := rd_some hs
        refine rh_zald X h 5 1 rfl rfl i8 e7 dX3_nextRoot_30 ?_
        refine lv_if_eq (tgt := 43) hx hb dX3_nextRoot_31 (by decide) (fun c9 => ?_) (fun c9 => ?_)
        · have hs := ite_p c9 hs
          refine lv_iconst (v := 0) hx hb dX3_nextRoot_43 (by decide) ?_
          obtain ⟨r10, h11, hs⟩ := bR_some hs
          refine rh_Si X h (kX3_at l G h11) (va_cwS 2 hts gX3_nextRoot_X3_at rfl rfl rfl (by decide +kernel) ⟨Nat.le_of_ble_eq_true rfl, Nat.le_of_ble_eq_true rfl⟩) rfl hl.1 rfl (Nat.le_of_ble_eq_true rfl) dX3_nextRoot_44 ⟨Nat.zero_le _, Nat.zero_le _⟩ (fun H locs h => ?_)
          obtain ⟨i14, v12, e13, hs⟩ := rd_some hs
          refine rh_iald X h 3 0 rfl rfl i14 e13 dX3_nextRoot_47 ?_
          refine lv_iconst (v := (-1)) hx hb dX3_nextRoot_48 (by decide) ?_
          refine lv_icmp_eq (tgt := 58) hx hb dX3_nextRoot_49 (by decide) (fun c15 => ?_) (fun c15 => ?_)
          · have hs := ite_p c15 hs
            refine lv_iload_n hx hb dX3_nextRoot_58 rfl (lv_at hl 1 rfl) ?_
            cases hs
            exact ret _ _ _ _ rfl dX3_nextRoot_59 h
          · have hs := ite_n c15 hs
            refine lv_iinc (v := v1 + 1) (lv' := [(1, .int (v1 + 1)), (0, .ref x)]) hx hb dX3_nextRoot_52 hl (k := 1) rfl rfl (by decide) rfl (fun ls hl => ?_)
            refine lv_goto (tgt := 2) hx hb dX3_nextRoot_55 (by decide) ?_
            exact ih _ _ _  (v1 + 1) h (lv_sub hl [1, 0] rfl) hs
        · have hs := ite_n c9 hs
          refine lv_aload_n hx hb dX3_nextRoot_34 rfl (lv_at hl 0 rfl) ?_
          refine rh_get X h (v := .ref (ad 6)) iX3_nextRoot_X3 0 9 rfl rfl (by decide) (by decide +kernel) rfl dX3_nextRoot_35 ?_
          refine lv_iload_n hx hb dX3_nextRoot_38 rfl (lv_at hl 1 rfl) ?_
          obtain ⟨i18, v16, e17, hs⟩ := rd_some hs
          refine rh_iald X h 6 0 rfl rfl i18 e17 dX3_nextRoot_39 ?_
          refine lv_goto (tgt := 44) hx hb dX3_nextRoot_40 (by decide) ?_
          obtain ⟨r19, h20, hs⟩ := bR_some hs
          refine rh_Si X h (kX3_at l G h20) (va_cwS 2 hts gX3_nextRoot_X3_at rfl rfl rfl (by decide +kernel) ⟨Nat.le_of_ble_eq_true rfl, Nat.le_of_ble_eq_true rfl⟩) rfl hl.1 rfl (Nat.le_of_ble_eq_true rfl) dX3_nextRoot_44 ⟨Nat.zero_le _, Nat.zero_le _⟩ (fun H locs h => ?_)
          obtain ⟨i23, v21, e22, hs⟩ := rd_some hs
          refine rh_iald X h 3 0 rfl rfl i23 e22 dX3_nextRoot_47 ?_
          refine lv_iconst (v := (-1)) hx hb dX3_nextRoot_48 (by decide) ?_
          refine lv_icmp_eq (tgt := 58) hx hb dX3_nextRoot_49 (by decide) (fun c24 => ?_) (fun c24 => ?_)
          · have hs := ite_p c24 hs
            refine lv_iload_n hx hb dX3_nextRoot_58 rfl (lv_at hl 1 rfl) ?_
            cases hs
            exact ret _ _ _ _ rfl dX3_nextRoot_59 h
          · have hs := ite_n c24 hs
            refine lv_iinc (v := v1 + 1) (lv' := [(1, .int (v1 + 1)), (0, .ref x)]) hx hb dX3_nextRoot_52 hl (k := 1) rfl rfl (by decide) rfl (fun ls hl => ?_)
            refine lv_goto (tgt := 2) hx hb dX3_nextRoot_55 (by decide) ?_
            exact ih _ _ _  (v1 + 1) h (lv_sub hl [1, 0] rfl) hs
def sX3_nextRoot (f : Nat → Int32) (g : Nat → Nat → Int32) : Option Int32 := sX3_nextRoot_2 40 f g 0
set_option maxHeartbeats 4000000 in
set_option maxRecDepth 100000 in
theorem bX3_nextRoot {p : Program} {l : Launch} {e : Env} {s : State} {m : MethodId} {args : Array Value} {below : List Frame} {meth : Method} {c : Code} {Q : State → Prop} {A : Nat → Prop} {G : va_G} {cyI cyZ : ClassId} {x : Nat} {ad : Nat → Nat} {f : Nat → Int32} {g : Nat → Nat → Int32} (X : rh_X p s m args c cX3_nextRoot 2 RX3 wsX3_nextRoot G [(cyI, .int), (cyZ, .boolean)] [] A) {r' : Int32} (ret : ∀ (H : Heap) (locs : List Loc) (ls : Array Slot) (pc : Nat), narrow .int (.int r') = .int r' → decode cX3_nextRoot pc = .ok (.ireturn, 1) → rh_W G A s H locs (mw cyI cyZ x ad f g) → W p l e rmX3_nextRoot s m args below meth c H locs 0 0 Q (F0 m pc ls [.int r'])) : ∀ (H : Heap) (locs : List Loc) (ls : Array Slot), rh_W G A s H locs (mw cyI cyZ x ad f g) → lv_has ls 2 [(0, .ref x)] → sX3_nextRoot f g = some r' → W p l e rmX3_nextRoot s m args below meth c H locs 0 0 Q (F0 m 0 ls []) := by
  have hx := X.1
  have hb := X.2.1
  have hown := X.2.2.2.1
  have hts := X.2.2.2.2.1
  have hK := X.2.2.2.2.2.1
  have hNN := X.2.2.2.2.2.2.1.2
  intro H locs ls h hl hs
  unfold sX3_nextRoot at hs
  refine lv_iconst (v := 0) hx hb dX3_nextRoot_0 (by decide) ?_
  refine lv_istore_n (lv' := [(1, .int 0), (0, .ref x)]) hx hb dX3_nextRoot_1 rfl hl (by decide) rfl (fun ls hl => ?_)
  exact bX3_nextRoot_2 X ret 40  _ _ _  0 h (lv_sub hl [1, 0] rfl) hs
theorem kX3_nextRoot (l : Launch) (G : va_G) {cyI cyZ : ClassId} {x : Nat} {ad : Nat → Nat} {f : Nat → Int32} {g : Nat → Nat → Int32} {r' : Int32} (hs : sX3_nextRoot f g = some r') : rh_Mi l yX3_nextRoot wsX3_nextRoot rmX3_nextRoot G [(cyI, .int), (cyZ, .boolean)] [] (mw cyI cyZ x ad f g) [.ref x] r' (mw cyI cyZ x ad f g) :=
  rh_ofi (by decide +kernel) rfl (Nat.le_of_ble_eq_true rfl) (fun p e s m below meth c A Q X ret ls hl h => bX3_nextRoot X ret _ _ ls h hl hs)
abbrev rmX3_flip : Room := { frames := 1, cells := 0, slots := 0, locals := 21 }
set_option maxRecDepth 100000 in
theorem iX3_flip_X3 : ∀ w ∈ u_ws RX3 TX3 22, w ∈ wsX3_flip := by decide +kernel
def sX3_flip_2 : Nat → (Nat → Int32) → (Nat → Nat → Int32) → Int32 → Option (Int32 × (Nat → Int32) × (Nat → Nat → Int32))
  | 0, _, _, _ => none
  | k + 1, f, g, v1 => if 16 ≤ v1 then (wt 2 (f 3) (bR (sX3_other f (ur g 3 (upd (g 3) (f 3).toNatClampNeg 0))) (fun r3 => lt ((f 8) + 1) (fun z5 => some ((16, (upd (upd (upd (upd (upd (upd f 3 r3) 4 0) 5 0) 6 0) 7 0) 8 z5), (ur g 3 (upd (g 3) (f 3).toNatClampNeg 0)))))))) else (rd (g 4) 16 v1 (fun v7 => if v7 = 0 then (rd (g 5) 16 v1 (fun v11 => wt 16 v1 (sX3_flip_2 k f (ur g 5 (upd (g 5) v1.toNatClampNeg v11)) (v1 + 1)))) else (rd (g 5) 16 v1 (fun v15 => bR (sX3_at  (f 3) v15) (fun r18 => rd (g 2) 800 r18 (fun v20 => wt 16 v1 (sX3_flip_2 k f (ur g 5 (upd (g 5) v1.toNatClampNeg v20)) (v1 + 1))))))))
set_option maxHeartbeats 4000000 in
set_option maxRecDepth 100000 in
theorem bX3_flip_2 {p : Program} {l : Launch} {e : Env} {s : State} {m : MethodId} {args : Array Value} {below : List Frame} {meth : Method} {c : Code} {Q : State → Prop} {A : Nat → Prop} {G : va_G} {cyI cyZ : ClassId} {x : Nat} {ad : Nat → Nat} (X : rh_X p s m args c cX3_flip 2 RX3 wsX3_flip G [(cyI, .int), (cyZ, .boolean)] [] A) {r' : Int32} {f' : Nat → Int32} {g' : Nat → Nat → Int32} (ret : ∀ (H : Heap) (locs : List Loc) (ls : Array Slot) (pc : Nat), narrow .int (.int r') = .int r' → decode cX3_flip pc = .ok (.ireturn, 1) → rh_W G A s H locs (mw cyI cyZ x ad f' g') → W p l e rmX3_flip s m args below meth c H locs 0 0 Q (F0 m pc ls [.int r'])) : ∀ k : Nat, ∀ (H : Heap) (locs : List Loc) (ls : Array Slot) (f : Nat → Int32) (g : Nat → Nat → Int32) (v1 : Int32), rh_W G A s H locs (mw cyI cyZ x ad f g) → lv_has ls 2 [(0, .ref x), (1, .int v1)] → sX3_flip_2 k f g v1 = some (r', f', g') → W p l e rmX3_flip s m args below meth c H locs 0 0 Q (F0 m 2 ls []) := by
  have hx := X.1
  have hb := X.2.1
  have hown := X.2.2.2.1
  have hts := X.2.2.2.2.1
  have hK := X.2.2.2.2.2.1
  have hNN := X.2.2.2.2.2.2.1.2
  intro k
  induction k with
  | zero => intro H locs ls f g v1 h hl hs; cases hs
  | succ k ih =>
    intro H locs ls f g v1 h hl hs
    simp only [sX3_flip_2] at hs
    refine lv_iload_n hx hb dX3_flip_2 rfl (lv_at hl 1 rfl) ?_
    refine lv_bipush (v := 16) hx hb dX3_flip_3 (by decide) ?_
    refine lv_icmp_ge (tgt := 56) hx hb dX3_flip_5 (by decide) (fun c1 => ?_) (fun c1 => ?_)
    · have hs := ite_p c1 hs
      refine lv_aload_n hx hb dX3_flip_56 rfl (lv_at hl 0 rfl) ?_
      refine rh_get X h (v := .ref (ad 4)) iX3_flip_X3 0 6 rfl rfl (by decide) (by decide +kernel) rfl dX3_flip_57 ?_
      refine lv_aload_n hx hb dX3_flip_60 rfl (lv_at hl 0 rfl) ?_
      refine rh_get X h (v := .int (f 3)) iX3_flip_X3 0 7 rfl rfl (by decide) (by decide +kernel) rfl dX3_flip_61 ?_
      refine lv_iconst (v := 0) hx hb dX3_flip_64 (by decide) ?_
      obtain ⟨i2, hs⟩ := wt_some hs
      refine rh_iast X h 4 0 rfl rfl i2 dX3_flip_65 (fun H locs h => ?_)
      have h : rh_W G A s H locs (mw cyI cyZ x ad f (ur g 3 (upd (g 3) (f 3).toNatClampNeg 0))) := mr_3 h
      refine lv_aload_n hx hb dX3_flip_66 rfl (lv_at hl 0 rfl) ?_
      refine lv_aload_n hx hb dX3_flip_67 rfl (lv_at hl 0 rfl) ?_
      obtain ⟨r3, h4, hs⟩ := bR_some hs
      refine rh_Vi X h (kX3_other l G (cyI := cyI) (cyZ := cyZ) (x := x) (ad := ad) h4) (cwV 0 hts gX3_flip_X3_other rfl rfl rfl (by decide +kernel) ⟨Nat.le_of_ble_eq_true rfl, Nat.le_of_ble_eq_true rfl⟩) (va_recv hK h.1 (ci := 3) (q0 := 0) rfl rfl) rfl hl.1 rfl (Nat.le_of_ble_eq_true rfl) dX3_flip_68 ⟨Nat.zero_le _, Nat.zero_le _⟩ (fun H locs h => ?_)
      refine rh_put X h iX3_flip_X3 tyX3 tyX3_ok nmX3 0 7 rfl rfl (by decide) (by decide +kernel) rfl rfl rfl (Nat.le_of_ble_eq_true rfl) dX3_flip_71 (fun H locs h => ?_)
      have h : rh_W G A s H locs (mw cyI cyZ x ad (upd f 3 r3) (ur g 3 (upd (g 3) (f 3).toNatClampNeg 0))) := mp_3 h
      refine lv_aload_n hx hb dX3_flip_74 rfl (lv_at hl 0 rfl) ?_
      refine lv_iconst (v := 0) hx hb dX3_flip_75 (by decide) ?_
      refine rh_put X h iX3_flip_X3 tyX3 tyX3_ok nmX3 0 10 rfl rfl (by decide) (by decide +kernel) rfl rfl rfl (Nat.le_of_ble_eq_true rfl) dX3_flip_76 (fun H locs h => ?_)
      have h : rh_W G A s H locs (mw cyI cyZ x ad (upd (upd f 3 r3) 4 0) (ur g 3 (upd (g 3) (f 3).toNatClampNeg 0))) := mp_4 h
      refine lv_aload_n hx hb dX3_flip_79 rfl (lv_at hl 0 rfl) ?_
      refine lv_iconst (v := 0) hx hb dX3_flip_80 (by decide) ?_
      refine rh_put X h iX3_flip_X3 tyX3 tyX3_ok nmX3 0 11 rfl rfl (by decide) (by decide +kernel) rfl rfl rfl (Nat.le_of_ble_eq_true rfl) dX3_flip_81 (fun H locs h => ?_)
      have h : rh_W G A s H locs (mw cyI cyZ x ad (upd (upd (upd f 3 r3) 4 0) 5 0) (ur g 3 (upd (g 3) (f 3).toNatClampNeg 0))) := mp_5 h
      refine lv_aload_n hx hb dX3_flip_84 rfl (lv_at hl 0 rfl) ?_
      refine lv_iconst (v := 0) hx hb dX3_flip_85 (by decide) ?_
      refine rh_put X h iX3_flip_X3 tyX3 tyX3_ok nmX3 0 12 rfl rfl (by decide) (by decide +kernel) rfl rfl rfl (Nat.le_of_ble_eq_true rfl) dX3_flip_86 (fun H locs h => ?_)
      have h : rh_W G A s H locs (mw cyI cyZ x ad (upd (upd (upd (upd f 3 r3) 4 0) 5 0) 6 0) (ur g 3 (upd (g 3) (f 3).toNatClampNeg 0))) := mp_6 h
      refine lv_aload_n hx hb dX3_flip_89 rfl (lv_at hl 0 rfl) ?_
      refine lv_iconst (v := 0) hx hb dX3_flip_90 (by decide) ?_
      refine rh_put X h iX3_flip_X3 tyX3 tyX3_ok nmX3 0 13 rfl rfl (by decide) (by decide +kernel) rfl rfl rfl (Nat.le_of_ble_eq_true rfl) dX3_flip_91 (fun H locs h => ?_)
      have h : rh_W G A s H locs (mw cyI cyZ x ad (upd (upd (upd (upd (upd f 3 r3) 4 0) 5 0) 6 0) 7 0) (ur g 3 (upd (g 3) (f 3).toNatClampNeg 0))) := mp_7 h
      refine lv_aload_n hx hb dX3_flip_94 rfl (lv_at hl 0 rfl) ?_
      refine lv_dup hx hb dX3_flip_95 rfl ?_
      refine rh_get X h (v := .int (f 8)) iX3_flip_X3 0 16 rfl rfl (by decide) (by decide +kernel) rfl dX3_flip_96 ?_
      refine lv_iconst (v := 1) hx hb dX3_flip_99 (by decide) ?_
      refine lv_iadd hx hb dX3_flip_100 ?_
      obtain ⟨z5, e6, hs⟩ := lt_some hs
      refine rh_top e6 ?_
      refine rh_put X h iX3_flip_X3 tyX3 tyX3_ok nmX3 0 16 rfl rfl (by decide) (by decide +kernel) rfl rfl rfl (Nat.le_of_ble_eq_true rfl) dX3_flip_101 (fun H locs h => ?_)
      have h : rh_W G A s H locs (mw cyI cyZ x ad (upd (upd (upd (upd (upd (upd f 3 r3) 4 0) 5 0) 6 0) 7 0) 8 z5) (ur g 3 (upd (g 3) (f 3).toNatClampNeg 0))) := mp_8 h
      refine lv_bipush (v := 16) hx hb dX3_flip_104 (by decide) ?_
      cases hs
      exact ret _ _ _ _ rfl dX3_flip_106 h
    · have hs := ite_n c1 hs
      refine lv_aload_n hx hb dX3_flip_8 rfl (lv_at hl 0 rfl) ?_
      refine rh_get X h (v := .ref (ad 6)) iX3_flip_X3 0 9 rfl rfl (by decide) (by decide +kernel) rfl dX3_flip_9 ?_
      refine lv_iload_n hx hb dX3_flip_12 rfl (lv_at hl 1 rfl) ?_
      refine lv_aload_n hx hb dX3_flip_13 rfl (lv_at hl 0 rfl) ?_
      refine rh_get X h (v := .ref (ad 5)) iX3_flip_X3 0 8 rfl rfl (by decide) (by decide +kernel) rfl dX3_flip_14 ?_
      refine lv_iload_n hx hb dX3_flip_17 rfl (lv_at hl 1 rfl) ?_
      obtain ⟨i9, v7, e8, hs⟩ := rd_some hs
      refine rh_zald X h 5 1 rfl rfl i9 e8 dX3_flip_18 ?_
      refine lv_if_eq (tgt := 43) hx hb dX3_flip_19 (by decide) (fun c10 => ?_) (fun c10 => ?_)
      · have hs := ite_p c10 hs
        refine lv_aload_n hx hb dX3_flip_43 rfl (lv_at hl 0 rfl) ?_
        refine rh_get X h (v := .ref (ad 6)) iX3_flip_X3 0 9 rfl rfl (by decide) (by decide +kernel) rfl dX3_flip_44 ?_
        refine lv_iload_n hx hb dX3_flip_47 rfl (lv_at hl 1 rfl) ?_
        obtain ⟨i13, v11, e12, hs⟩ := rd_some hs
        refine rh_iald X h 6 0 rfl rfl i13 e12 dX3_flip_48 ?_
        obtain ⟨i14, hs⟩ := wt_some hs
        refine rh_iast X h 6 0 rfl rfl i14 dX3_flip_49 (fun H locs h => ?_)
        have h : rh_W G A s H locs (mw cyI cyZ x ad f (ur g 5 (upd (g 5) v1.toNatClampNeg v11))) := mr_5 h
        refine lv_iinc (v := v1 + 1) (lv' := [(1, .int (v1 + 1)), (0, .ref x)]) hx hb dX3_flip_50 hl (k := 1) rfl rfl (by decide) rfl (fun ls hl => ?_)
        refine lv_goto (tgt := 2) hx hb dX3_flip_53 (by decide) ?_
        exact ih _ _ _ f (ur g 5 (upd (g 5) v1.toNatClampNeg v11)) (v1 + 1) h (lv_sub hl [1, 0] rfl) hs
      · have hs := ite_n c10 hs
        refine lv_aload_n hx hb dX3_flip_22 rfl (lv_at hl 0 rfl) ?_
        refine rh_get X h (v := .ref (ad 3)) iX3_flip_X3 0 5 rfl rfl (by decide) (by decide +kernel) rfl dX3_flip_23 ?_
        refine lv_aload_n hx hb dX3_flip_26 rfl (lv_at hl 0 rfl) ?_
        refine rh_get X h (v := .int (f 3)) iX3_flip_X3 0 7 rfl rfl (by decide) (by decide +kernel) rfl dX3_flip_27 ?_
        refine lv_aload_n hx hb dX3_flip_30 rfl (lv_at hl 0 rfl) ?_
        refine rh_get X h (v := .ref (ad 6)) iX3_flip_X3 0 9 rfl rfl (by decide) (by decide +kernel) rfl dX3_flip_31 ?_
        refine lv_iload_n hx hb dX3_flip_34 rfl (lv_at hl 1 rfl) ?_
        obtain ⟨i17, v15, e16, hs⟩ := rd_some hs
        refine rh_iald X h 6 0 rfl rfl i17 e16 dX3_flip_35 ?_
        obtain ⟨r18, h19, hs⟩ := bR_some hs
        refine rh_Si X h (kX3_at l G h19) (va_cwS 2 hts gX3_flip_X3_at rfl rfl rfl (by decide +kernel) ⟨Nat.le_of_ble_eq_true rfl, Nat.le_of_ble_eq_true rfl⟩) rfl hl.1 rfl (Nat.le_of_ble_eq_true rfl) dX3_flip_36 ⟨Nat.zero_le _, Nat.zero_le _⟩ (fun H locs h => ?_)
        obtain ⟨i22, v20, e21, hs⟩ := rd_some hs
        refine rh_iald X h 3 0 rfl rfl i22 e21 dX3_flip_39 ?_
        refine lv_goto (tgt := 49) hx hb dX3_flip_40 (by decide) ?_
        obtain ⟨i23, hs⟩ := wt_some hs
        refine rh_iast X h 6 0 rfl rfl i23 dX3_flip_49 (fun H locs h => ?_)
        have h : rh_W G A s H locs (mw cyI cyZ x ad f (ur g 5 (upd (g 5) v1.toNatClampNeg v20))) := mr_5 h
        refine lv_iinc (v := v1 + 1) (lv' := [(1, .int (v1 + 1)), (0, .ref x)]) hx hb dX3_flip_50 hl (k := 1) rfl rfl (by decide) rfl (fun ls hl => ?_)
        refine lv_goto (tgt := 2) hx hb dX3_flip_53 (by decide) ?_
        exact ih _ _ _ f (ur g 5 (upd (g 5) v1.toNatClampNeg v20)) (v1 + 1) h (lv_sub hl [1, 0] rfl) hs
def sX3_flip (f : Nat → Int32) (g : Nat → Nat → Int32) : Option (Int32 × (Nat → Int32) × (Nat → Nat → Int32)) := sX3_flip_2 40 f g 0
set_option maxHeartbeats 4000000 in
set_option maxRecDepth 100000 in
theorem bX3_flip {p : Program} {l : Launch} {e : Env} {s : State} {m : MethodId} {args : Array Value} {below : List Frame} {meth : Method} {c : Code} {Q : State → Prop} {A : Nat → Prop} {G : va_G} {cyI cyZ : ClassId} {x : Nat} {ad : Nat → Nat} (X : rh_X p s m args c cX3_flip 2 RX3 wsX3_flip G [(cyI, .int), (cyZ, .boolean)] [] A) {r' : Int32} {f' : Nat → Int32} {g' : Nat → Nat → Int32} (ret : ∀ (H : Heap) (locs : List Loc) (ls : Array Slot) (pc : Nat), narrow .int (.int r') = .int r' → decode cX3_flip pc = .ok (.ireturn, 1) → rh_W G A s H locs (mw cyI cyZ x ad f' g') → W p l e rmX3_flip s m args below meth c H locs 0 0 Q (F0 m pc ls [.int r'])) : ∀ (H : Heap) (locs : List Loc) (ls : Array Slot) (f : Nat → Int32) (g : Nat → Nat → Int32), rh_W G A s H locs (mw cyI cyZ x ad f g) → lv_has ls 2 [(0, .ref x)] → sX3_flip f g = some (r', f', g') → W p l e rmX3_flip s m args below meth c H locs 0 0 Q (F0 m 0 ls []) := by
  have hx := X.1
  have hb := X.2.1
  have hown := X.2.2.2.1
  have hts := X.2.2.2.2.1
  have hK := X.2.2.2.2.2.1
  have hNN := X.2.2.2.2.2.2.1.2
  intro H locs ls f g h hl hs
  unfold sX3_flip at hs
  refine lv_iconst (v := 0) hx hb dX3_flip_0 (by decide) ?_
  refine lv_istore_n (lv' := [(1, .int 0), (0, .ref x)]) hx hb dX3_flip_1 rfl hl (by decide) rfl (fun ls hl => ?_)
  exact bX3_flip_2 X ret 40  _ _ _ f g 0 h (lv_sub hl [1, 0] rfl) hs
theorem kX3_flip (l : Launch) (G : va_G) {cyI cyZ : ClassId} {x : Nat} {ad : Nat → Nat} {f : Nat → Int32} {g : Nat → Nat → Int32} {r' : Int32} {f' : Nat → Int32} {g' : Nat → Nat → Int32} (hs : sX3_flip f g = some (r', f', g')) : rh_Mi l yX3_flip wsX3_flip rmX3_flip G [(cyI, .int), (cyZ, .boolean)] [] (mw cyI cyZ x ad f g) [.ref x] r' (mw cyI cyZ x ad f' g') :=
  rh_ofi (by decide +kernel) rfl (Nat.le_of_ble_eq_true rfl) (fun p e s m below meth c A Q X ret ls hl h => bX3_flip X ret _ _ ls f g h hl hs)
abbrev rmX3_step : Room := { frames := 4, cells := 0, slots := 0, locals := 93 }
set_option maxRecDepth 100000 in
theorem iX3_step_X3 : ∀ w ∈ u_ws RX3 TX3 22, w ∈ wsX3_step := by decide +kernel
def sX3_step_76 (f : Nat → Int32) (g : Nat → Nat → Int32) (v1 : Int32) : Option (Int32 × (Nat → Int32) × (Nat → Nat → Int32)) := lt ((f 10) + v1) (fun z15 => some ((v1, (upd f 10 z15), g)))
set_option maxHeartbeats 4000000 in
set_option maxRecDepth 100000 in
theorem bX3_step_76 {p : Program} {l : Launch} {e : Env} {s : State} {m : MethodId} {args : Array Value} {below : List Frame} {meth : Method} {c : Code} {Q : State → Prop} {A : Nat → Prop} {G : va_G} {cyI cyZ : ClassId} {x : Nat} {ad : Nat → Nat} (X : rh_X p s m args c cX3_step 2 RX3 wsX3_step G [(cyI, .int), (cyZ, .boolean)] [] A) {r' : Int32} {f' : Nat → Int32} {g' : Nat → Nat → Int32} (ret : ∀ (H : Heap) (locs : List Loc) (ls : Array Slot) (pc : Nat), narrow .int (.int r') = .int r' → decode cX3_step pc = .ok (.ireturn, 1) → rh_W G A s H locs (mw cyI cyZ x ad f' g') → W p l e rmX3_step s m args below meth c H locs 0 0 Q (F0 m pc ls [.int r'])) : ∀ (H : Heap) (locs : List Loc) (ls : Array Slot) (f : Nat → Int32) (g : Nat → Nat → Int32) (v1 : Int32), rh_W G A s H locs (mw cyI cyZ x ad f g) → lv_has ls 2 [(0, .ref x), (1, .int v1)] → sX3_step_76 f g v1 = some (r', f', g') → W p l e rmX3_step s m args below meth c H locs 0 0 Q (F0 m 76 ls []) := by
  have hx := X.1
  have hb := X.2.1
  have hown := X.2.2.2.1
  have hts := X.2.2.2.2.1
  have hK := X.2.2.2.2.2.1
  have hNN := X.2.2.2.2.2.2.1.2
  intro H locs ls f g v1 h hl hs
  unfold sX3_step_76 at hs
  refine lv_aload_n hx hb dX3_step_76 rfl (lv_at hl 0 rfl) ?_
  refine lv_dup hx hb dX3_step_77 rfl ?_
  refine rh_get X h (v := .int (f 10)) iX3_step_X3 0 18 rfl rfl (by decide) (by decide +kernel) rfl dX3_step_78 ?_
  refine lv_iload_n hx hb dX3_step_81 rfl (lv_at hl 1 rfl) ?_
  refine lv_iadd hx hb dX3_step_82 ?_
  obtain ⟨z15, e16, hs⟩ := lt_some hs
  refine rh_top e16 ?_
  refine rh_put X h iX3_step_X3 tyX3 tyX3_ok nmX3 0 18 rfl rfl (by decide) (by decide +kernel) rfl rfl rfl (Nat.le_of_ble_eq_true rfl) dX3_step_83 (fun H locs h => ?_)
  have h : rh_W G A s H locs (mw cyI cyZ x ad (upd f 10 z15) g) := mp_10 h
  refine lv_iload_n hx hb dX3_step_86 rfl (lv_at hl 1 rfl) ?_
  cases hs
  exact ret _ _ _ _ rfl dX3_step_87 h
def sX3_step (f : Nat → Int32) (g : Nat → Nat → Int32) : Option (Int32 × (Nat → Int32) × (Nat → Nat → Int32)) := if (f 6) ≤ (f 7) then (bR (sX3_other f g) (fun r2 => rd (g 3) 2 r2 (fun v4 => if v4 ≤ (f 5) then (bR (sX3_nextRoot f g) (fun r8 => if 16 ≤ r8 then (bWi (sX3_flip f g) (fun r11 f12 g13 => sX3_step_76 f12 g13 r11)) else (bR (sX3_nextRoot f g) (fun r17 => rd (g 5) 16 r17 (fun v19 => bWi (sX3_replicate f g v19) (fun r22 f23 g24 => sX3_step_76 f23 g24 r22)))))) else (bWi (sX3_look f g) (fun r26 f27 g28 => sX3_step_76 f27 g28 r26))))) else (bWi (sX3_take f g) (fun r30 f31 g32 => sX3_step_76 f31 g32 r30))
set_option maxHeartbeats 4000000 in
set_option maxRecDepth 100000 in
theorem bX3_step {p : Program} {l : Launch} {e : Env} {s : State} {m : MethodId} {args : Array Value} {below : List Frame} {meth : Method} {c : Code} {Q : State → Prop} {A : Nat → Prop} {G : va_G} {cyI cyZ : ClassId} {x : Nat} {ad : Nat → Nat} (X : rh_X p s m args c cX3_step 2 RX3 wsX3_step G [(cyI, .int), (cyZ, .boolean)] [] A) {r' : Int32} {f' : Nat → Int32} {g' : Nat → Nat → Int32} (ret : ∀ (H : Heap) (locs : List Loc) (ls : Array Slot) (pc : Nat), narrow .int (.int r') = .int r' → decode cX3_step pc = .ok (.ireturn, 1) → rh_W G A s H locs (mw cyI cyZ x ad f' g') → W p l e rmX3_step s m args below meth c H locs 0 0 Q (F0 m pc ls [.int r'])) : ∀ (H : Heap) (locs : List Loc) (ls : Array Slot) (f : Nat → Int32) (g : Nat → Nat → Int32), rh_W G A s H locs (mw cyI cyZ x ad f g) → lv_has ls 2 [(0, .ref x)] → sX3_step f g = some (r', f', g') → W p l e rmX3_step s m args below meth c H locs 0 0 Q (F0 m 0 ls []) := by
  have hx := X.1
  have hb := X.2.1
  have hown := X.2.2.2.1
  have hts := X.2.2.2.2.1
  have hK := X.2.2.2.2.2.1
  have hNN := X.2.2.2.2.2.2.1.2
  intro H locs ls f g h hl hs
  unfold sX3_step at hs
  refine lv_iconst (v := 0) hx hb dX3_step_0 (by decide) ?_
  refine lv_istore_n (lv' := [(1, .int 0), (0, .ref x)]) hx hb dX3_step_1 rfl hl (by decide) rfl (fun ls hl => ?_)
  refine lv_aload_n hx hb dX3_step_2 rfl (lv_at hl 1 rfl) ?_
  refine rh_get X h (v := .int (f 7)) iX3_step_X3 0 13 rfl rfl (by decide) (by decide +kernel) rfl dX3_step_3 ?_
  refine lv_aload_n hx hb dX3_step_6 rfl (lv_at hl 1 rfl) ?_
  refine rh_get X h (v := .int (f 6)) iX3_step_X3 0 12 rfl rfl (by decide) (by decide +kernel) rfl dX3_step_7 ?_
  refine lv_icmp_ge (tgt := 21) hx hb dX3_step_10 (by decide) (fun c1 => ?_) (fun c1 => ?_)
  · have hs := ite_p c1 hs
    refine lv_aload_n hx hb dX3_step_21 rfl (lv_at hl 1 rfl) ?_
    refine rh_get X h (v := .int (f 5)) iX3_step_X3 0 11 rfl rfl (by decide) (by decide +kernel) rfl dX3_step_22 ?_
    refine lv_aload_n hx hb dX3_step_25 rfl (lv_at hl 1 rfl) ?_
    refine rh_get X h (v := .ref (ad 4)) iX3_step_X3 0 6 rfl rfl (by decide) (by decide +kernel) rfl dX3_step_26 ?_
    refine lv_aload_n hx hb dX3_step_29 rfl (lv_at hl 1 rfl) ?_
    obtain ⟨r2, h3, hs⟩ := bR_some hs
    refine rh_Vi X h (kX3_other l G (cyI := cyI) (cyZ := cyZ) (x := x) (ad := ad) h3) (cwV 0 hts gX3_step_X3_other rfl rfl rfl (by decide +kernel) ⟨Nat.le_of_ble_eq_true rfl, Nat.le_of_ble_eq_true rfl⟩) (va_recv hK h.1 (ci := 3) (q0 := 0) rfl rfl) rfl hl.1 rfl (Nat.le_of_ble_eq_true rfl) dX3_step_30 ⟨Nat.zero_le _, Nat.zero_le _⟩ (fun H locs h => ?_)
    obtain ⟨i6, v4, e5, hs⟩ := rd_some hs
    refine rh_iald X h 4 0 rfl rfl i6 e5 dX3_step_33 ?_
    refine lv_icmp_ge (tgt := 45) hx hb dX3_step_34 (by decide) (fun c7 => ?_) (fun c7 => ?_)
    · have hs := ite_p c7 hs
      refine lv_aload_n hx hb dX3_step_45 rfl (lv_at hl 1 rfl) ?_
      obtain ⟨r8, h9, hs⟩ := bR_some hs
      refine rh_Vi X h (kX3_nextRoot l G (cyI := cyI) (cyZ := cyZ) (x := x) (ad := ad) h9) (cwV 0 hts gX3_step_X3_nextRoot rfl rfl rfl (by decide +kernel) ⟨Nat.le_of_ble_eq_true rfl, Nat.le_of_ble_eq_true rfl⟩) (va_recv hK h.1 (ci := 3) (q0 := 0) rfl rfl) rfl hl.1 rfl (Nat.le_of_ble_eq_true rfl) dX3_step_46 ⟨Nat.zero_le _, Nat.zero_le _⟩ (fun H locs h => ?_)
      refine lv_bipush (v := 16) hx hb dX3_step_49 (by decide) ?_
      refine lv_icmp_ge (tgt := 71) hx hb dX3_step_51 (by decide) (fun c10 => ?_) (fun c10 => ?_)
      · have hs := ite_p c10 hs
        refine lv_aload_n hx hb dX3_step_71 rfl (lv_at hl 1 rfl) ?_
        obtain ⟨r11, f12, g13, h14, hs⟩ := bWi_some hs
        refine rh_Vi X h (kX3_flip l G (cyI := cyI) (cyZ := cyZ) (x := x) (ad := ad) h14) (cwV 0 hts gX3_step_X3_flip rfl rfl rfl (by decide +kernel) ⟨Nat.le_of_ble_eq_true rfl, Nat.le_of_ble_eq_true rfl⟩) (va_recv hK h.1 (ci := 3) (q0 := 0) rfl rfl) rfl hl.1 rfl (Nat.le_of_ble_eq_true rfl) dX3_step_72 ⟨Nat.zero_le _, Nat.zero_le _⟩ (fun H locs h => ?_)
        refine lv_istore_n (lv' := [(1, .int r11), (0, .ref x)]) hx hb dX3_step_75 rfl hl (by decide) rfl (fun ls hl => ?_)
        exact bX3_step_76 X ret  _ _ _ f12 g13 r11 h (lv_sub hl [1, 0] rfl) hs
      · have hs := ite_n c10 hs
        refine lv_aload_n hx hb dX3_step_54 rfl (lv_at hl 1 rfl) ?_
        refine lv_aload_n hx hb dX3_step_55 rfl (lv_at hl 1 rfl) ?_
        refine rh_get X h (v := .ref (ad 6)) iX3_step_X3 0 9 rfl rfl (by decide) (by decide +kernel) rfl dX3_step_56 ?_
        refine lv_aload_n hx hb dX3_step_59 rfl (lv_at hl 1 rfl) ?_
        obtain ⟨r17, h18, hs⟩ := bR_some hs
        refine rh_Vi X h (kX3_nextRoot l G (cyI := cyI) (cyZ := cyZ) (x := x) (ad := ad) h18) (cwV 0 hts gX3_step_X3_nextRoot rfl rfl rfl (by decide +kernel) ⟨Nat.le_of_ble_eq_true rfl, Nat.le_of_ble_eq_true rfl⟩) (va_recv hK h.1 (ci := 3) (q0 := 0) rfl rfl) rfl hl.1 rfl (Nat.le_of_ble_eq_true rfl) dX3_step_60 ⟨Nat.zero_le _, Nat.zero_le _⟩ (fun H locs h => ?_)
        obtain ⟨i21, v19, e20, hs⟩ := rd_some hs
        refine rh_iald X h 6 0 rfl rfl i21 e20 dX3_step_63 ?_
        obtain ⟨r22, f23, g24, h25, hs⟩ := bWi_some hs
        refine rh_Vi X h (kX3_replicate l G (cyI := cyI) (cyZ := cyZ) (x := x) (ad := ad) h25) (cwV 1 hts gX3_step_X3_replicate rfl rfl rfl (by decide +kernel) ⟨Nat.le_of_ble_eq_true rfl, Nat.le_of_ble_eq_true rfl⟩) (va_recv hK h.1 (ci := 3) (q0 := 0) rfl rfl) rfl hl.1 rfl (Nat.le_of_ble_eq_true rfl) dX3_step_64 ⟨Nat.zero_le _, Nat.zero_le _⟩ (fun H locs h => ?_)
        refine lv_istore_n (lv' := [(1, .int r22), (0, .ref x)]) hx hb dX3_step_67 rfl hl (by decide) rfl (fun ls hl => ?_)
        refine lv_goto (tgt := 76) hx hb dX3_step_68 (by decide) ?_
        exact bX3_step_76 X ret  _ _ _ f23 g24 r22 h (lv_sub hl [1, 0] rfl) hs
    · have hs := ite_n c7 hs
      refine lv_aload_n hx hb dX3_step_37 rfl (lv_at hl 1 rfl) ?_
      obtain ⟨r26, f27, g28, h29, hs⟩ := bWi_some hs
      refine rh_Vi X h (kX3_look l G (cyI := cyI) (cyZ := cyZ) (x := x) (ad := ad) h29) (cwV 0 hts gX3_step_X3_look rfl rfl rfl (by decide +kernel) ⟨Nat.le_of_ble_eq_true rfl, Nat.le_of_ble_eq_true rfl⟩) (va_recv hK h.1 (ci := 3) (q0 := 0) rfl rfl) rfl hl.1 rfl (Nat.le_of_ble_eq_true rfl) dX3_step_38 ⟨Nat.zero_le _, Nat.zero_le _⟩ (fun H locs h => ?_)
      refine lv_istore_n (lv' := [(1, .int r26), (0, .ref x)]) hx hb dX3_step_41 rfl hl (by decide) rfl (fun ls hl => ?_)
      refine lv_goto (tgt := 76) hx hb dX3_step_42 (by decide) ?_
      exact bX3_step_76 X ret  _ _ _ f27 g28 r26 h (lv_sub hl [1, 0] rfl) hs
  · have hs := ite_n c1 hs
    refine lv_aload_n hx hb dX3_step_13 rfl (lv_at hl 1 rfl) ?_
    obtain ⟨r30, f31, g32, h33, hs⟩ := bWi_some hs
    refine rh_Vi X h (kX3_take l G (cyI := cyI) (cyZ := cyZ) (x := x) (ad := ad) h33) (cwV 0 hts gX3_step_X3_take rfl rfl rfl (by decide +kernel) ⟨Nat.le_of_ble_eq_true rfl, Nat.le_of_ble_eq_true rfl⟩) (va_recv hK h.1 (ci := 3) (q0 := 0) rfl rfl) rfl hl.1 rfl (Nat.le_of_ble_eq_true rfl) dX3_step_14 ⟨Nat.zero_le _, Nat.zero_le _⟩ (fun H locs h => ?_)
    refine lv_istore_n (lv' := [(1, .int r30), (0, .ref x)]) hx hb dX3_step_17 rfl hl (by decide) rfl (fun ls hl => ?_)
    refine lv_goto (tgt := 76) hx hb dX3_step_18 (by decide) ?_
    exact bX3_step_76 X ret  _ _ _ f31 g32 r30 h (lv_sub hl [1, 0] rfl) hs
theorem kX3_step (l : Launch) (G : va_G) {cyI cyZ : ClassId} {x : Nat} {ad : Nat → Nat} {f : Nat → Int32} {g : Nat → Nat → Int32} {r' : Int32} {f' : Nat → Int32} {g' : Nat → Nat → Int32} (hs : sX3_step f g = some (r', f', g')) : rh_Mi l yX3_step wsX3_step rmX3_step G [(cyI, .int), (cyZ, .boolean)] [] (mw cyI cyZ x ad f g) [.ref x] r' (mw cyI cyZ x ad f' g') :=
  rh_ofi (by decide +kernel) rfl (Nat.le_of_ble_eq_true rfl) (fun p e s m below meth c A Q X ret ls hl h => bX3_step X ret _ _ ls f g h hl hs)
abbrev rmX3_work : Room := { frames := 5, cells := 0, slots := 0, locals := 114 }
set_option maxRecDepth 100000 in
theorem iX3_work_X3 : ∀ w ∈ u_ws RX3 TX3 22, w ∈ wsX3_work := by decide +kernel
def sX3_work_2 : Nat → (Nat → Int32) → (Nat → Nat → Int32) → Int32 → Int32 → Option (Int32 × (Nat → Int32) × (Nat → Nat → Int32))
  | 0, _, _, _, _ => none
  | k + 1, f, g, v1, v2 => if (f 4) = 0 then (some ((v2, f, g))) else (if v1 < 0 then (bWi (sX3_step f g) (fun r3 f4 g5 => sX3_work_2 k f4 g5 v1 (v2 + r3))) else (if v1 ≤ v2 then (some ((v2, f, g))) else (bWi (sX3_step f g) (fun r8 f9 g10 => sX3_work_2 k f9 g10 v1 (v2 + r8)))))
set_option maxHeartbeats 4000000 in
set_option maxRecDepth 100000 in
theorem bX3_work_2 {p : Program} {l : Launch} {e : Env} {s : State} {m : MethodId} {args : Array Value} {below : List Frame} {meth : Method} {c : Code} {Q : State → Prop} {A : Nat → Prop} {G : va_G} {cyI cyZ : ClassId} {x : Nat} {ad : Nat → Nat} (X : rh_X p s m args c cX3_work 3 RX3 wsX3_work G [(cyI, .int), (cyZ, .boolean)] [] A) {r' : Int32} {f' : Nat → Int32} {g' : Nat → Nat → Int32} (ret : ∀ (H : Heap) (locs : List Loc) (ls : Array Slot) (pc : Nat), narrow .int (.int r') = .int r' → decode cX3_work pc = .ok (.ireturn, 1) → rh_W G A s H locs (mw cyI cyZ x ad f' g') → W p l e rmX3_work s m args below meth c H locs 0 0 Q (F0 m pc ls [.int r'])) : ∀ k : Nat, ∀ (H : Heap) (locs : List Loc) (ls : Array Slot) (f : Nat → Int32) (g : Nat → Nat → Int32) (v1 : Int32) (v2 : Int32), rh_W G A s H locs (mw cyI cyZ x ad f g) → lv_has ls 3 [(0, .ref x), (1, .int v1), (2, .int v2)] → sX3_work_2 k f g v1 v2 = some (r', f', g') → W p l e rmX3_work s m args below meth c H locs 0 0 Q (F0 m 2 ls []) := by
  have hx := X.1
  have hb := X.2.1
  have hown := X.2.2.2.1
  have hts := X.2.2.2.2.1
  have hK := X.2.2.2.2.2.1
  have hNN := X.2.2.2.2.2.2.1.2
  intro k
  induction k with
  | zero => intro H locs ls f g v1 v2 h hl hs; cases hs
  | succ k ih =>
    intro H locs ls f g v1 v2 h hl hs
    simp only [sX3_work_2] at hs
    refine lv_aload_n hx hb dX3_work_2 rfl (lv_at hl 0 rfl) ?_
    refine rh_get X h (v := .int (f 4)) iX3_work_X3 0 10 rfl rfl (by decide) (by decide +kernel) rfl dX3_work_3 ?_
    refine lv_if_eq (tgt := 28) hx hb dX3_work_6 (by decide) (fun c1 => ?_) (fun c1 => ?_)
    · have hs := ite_p c1 hs
      refine lv_iload_n hx hb dX3_work_28 rfl (lv_at hl 2 rfl) ?_
      cases hs
      exact ret _ _ _ _ rfl dX3_work_29 h
    · have hs := ite_n c1 hs
      refine lv_iload_n hx hb dX3_work_9 rfl (lv_at hl 1 rfl) ?_
      refine lv_if_lt (tgt := 18) hx hb dX3_work_10 (by decide) (fun c2 => ?_) (fun c2 => ?_)
      · have hs := ite_p c2 hs
        refine lv_iload_n hx hb dX3_work_18 rfl (lv_at hl 2 rfl) ?_
        refine lv_aload_n hx hb dX3_work_19 rfl (lv_at hl 0 rfl) ?_
        obtain ⟨r3, f4, g5, h6, hs⟩ := bWi_some hs
        refine rh_Vi X h (kX3_step l G (cyI := cyI) (cyZ := cyZ) (x := x) (ad := ad) h6) (cwV 0 hts gX3_work_X3_step rfl rfl rfl (by decide +kernel) ⟨Nat.le_of_ble_eq_true rfl, Nat.le_of_ble_eq_true rfl⟩) (va_recv hK h.1 (ci := 3) (q0 := 0) rfl rfl) rfl hl.1 rfl (Nat.le_of_ble_eq_true rfl) dX3_work_20 ⟨Nat.zero_le _, Nat.zero_le _⟩ (fun H locs h => ?_)
        refine lv_iadd hx hb dX3_work_23 ?_
        refine lv_istore_n (lv' := [(2, .int (v2 + r3)), (0, .ref x), (1, .int v1)]) hx hb dX3_work_24 rfl hl (by decide) rfl (fun ls hl => ?_)
        refine lv_goto (tgt := 2) hx hb dX3_work_25 (by decide) ?_
        exact ih _ _ _ f4 g5 v1 (v2 + r3) h (lv_sub hl [1, 2, 0] rfl) hs
      · have hs := ite_n c2 hs
        refine lv_iload_n hx hb dX3_work_13 rfl (lv_at hl 2 rfl) ?_
        refine lv_iload_n hx hb dX3_work_14 rfl (lv_at hl 1 rfl) ?_
        refine lv_icmp_ge (tgt := 28) hx hb dX3_work_15 (by decide) (fun c7 => ?_) (fun c7 => ?_)
        · have hs := ite_p c7 hs
          refine lv_iload_n hx hb dX3_work_28 rfl (lv_at hl 2 rfl) ?_
          cases hs
          exact ret _ _ _ _ rfl dX3_work_29 h
        · have hs := ite_n c7 hs
          refine lv_iload_n hx hb dX3_work_18 rfl (lv_at hl 2 rfl) ?_
          refine lv_aload_n hx hb dX3_work_19 rfl (lv_at hl 0 rfl) ?_
          obtain ⟨r8, f9, g10, h11, hs⟩ := bWi_some hs
          refine rh_Vi X h (kX3_step l G (cyI := cyI) (cyZ := cyZ) (x := x) (ad := ad) h11) (cwV 0 hts gX3_work_X3_step rfl rfl rfl (by decide +kernel) ⟨Nat.le_of_ble_eq_true rfl, Nat.le_of_ble_eq_true rfl⟩) (va_recv hK h.1 (ci := 3) (q0 := 0) rfl rfl) rfl hl.1 rfl (Nat.le_of_ble_eq_true rfl) dX3_work_20 ⟨Nat.zero_le _, Nat.zero_le _⟩ (fun H locs h => ?_)
          refine lv_iadd hx hb dX3_work_23 ?_
          refine lv_istore_n (lv' := [(2, .int (v2 + r8)), (0, .ref x), (1, .int v1)]) hx hb dX3_work_24 rfl hl (by decide) rfl (fun ls hl => ?_)
          refine lv_goto (tgt := 2) hx hb dX3_work_25 (by decide) ?_
          exact ih _ _ _ f9 g10 v1 (v2 + r8) h (lv_sub hl [1, 2, 0] rfl) hs
def sX3_work (f : Nat → Int32) (g : Nat → Nat → Int32) (p1 : Int32) : Option (Int32 × (Nat → Int32) × (Nat → Nat → Int32)) := sX3_work_2 wF f g p1 0
set_option maxHeartbeats 4000000 in
set_option maxRecDepth 100000 in
theorem bX3_work {p : Program} {l : Launch} {e : Env} {s : State} {m : MethodId} {args : Array Value} {below : List Frame} {meth : Method} {c : Code} {Q : State → Prop} {A : Nat → Prop} {G : va_G} {cyI cyZ : ClassId} {x : Nat} {ad : Nat → Nat} (X : rh_X p s m args c cX3_work 3 RX3 wsX3_work G [(cyI, .int), (cyZ, .boolean)] [] A) {r' : Int32} {f' : Nat → Int32} {g' : Nat → Nat → Int32} (ret : ∀ (H : Heap) (locs : List Loc) (ls : Array Slot) (pc : Nat), narrow .int (.int r') = .int r' → decode cX3_work pc = .ok (.ireturn, 1) → rh_W G A s H locs (mw cyI cyZ x ad f' g') → W p l e rmX3_work s m args below meth c H locs 0 0 Q (F0 m pc ls [.int r'])) : ∀ (H : Heap) (locs : List Loc) (ls : Array Slot) (f : Nat → Int32) (g : Nat → Nat → Int32) (p1 : Int32), rh_W G A s H locs (mw cyI cyZ x ad f g) → lv_has ls 3 [(0, .ref x), (1, .int p1)] → sX3_work f g p1 = some (r', f', g') → W p l e rmX3_work s m args below meth c H locs 0 0 Q (F0 m 0 ls []) := by
  have hx := X.1
  have hb := X.2.1
  have hown := X.2.2.2.1
  have hts := X.2.2.2.2.1
  have hK := X.2.2.2.2.2.1
  have hNN := X.2.2.2.2.2.2.1.2
  intro H locs ls f g p1 h hl hs
  unfold sX3_work at hs
  refine lv_iconst (v := 0) hx hb dX3_work_0 (by decide) ?_
  refine lv_istore_n (lv' := [(2, .int 0), (0, .ref x), (1, .int p1)]) hx hb dX3_work_1 rfl hl (by decide) rfl (fun ls hl => ?_)
  exact bX3_work_2 X ret wF  _ _ _ f g p1 0 h (lv_sub hl [1, 2, 0] rfl) hs
theorem kX3_work (l : Launch) (G : va_G) {cyI cyZ : ClassId} {x : Nat} {ad : Nat → Nat} {f : Nat → Int32} {g : Nat → Nat → Int32} {p1 : Int32} {r' : Int32} {f' : Nat → Int32} {g' : Nat → Nat → Int32} (hs : sX3_work f g p1 = some (r', f', g')) : rh_Mi l yX3_work wsX3_work rmX3_work G [(cyI, .int), (cyZ, .boolean)] [] (mw cyI cyZ x ad f g) [.ref x, .int p1] r' (mw cyI cyZ x ad f' g') :=
  rh_ofi (by decide +kernel) rfl (Nat.le_of_ble_eq_true rfl) (fun p e s m below meth c A Q X ret ls hl h => bX3_work X ret _ _ ls f g p1 h hl hs)
abbrev rmX3_begin : Room := { frames := 1, cells := 0, slots := 0, locals := 20 }
set_option maxRecDepth 100000 in
theorem iX3_begin_X3 : ∀ w ∈ u_ws RX3 TX3 22, w ∈ wsX3_begin := by decide +kernel
def sX3_begin (f : Nat → Int32) (g : Nat → Nat → Int32) : Option ((Nat → Int32) × (Nat → Nat → Int32)) := if (f 4) = 0 then (bR (sX3_other (upd (upd (upd (upd f 4 1) 5 0) 6 0) 7 0) g) (fun r2 => wt 2 r2 (some (((upd (upd (upd (upd f 4 1) 5 0) 6 0) 7 0), (ur g 3 (upd (g 3) r2.toNatClampNeg 0))))))) else (some ((f, g)))
set_option maxHeartbeats 4000000 in
set_option maxRecDepth 100000 in
theorem bX3_begin {p : Program} {l : Launch} {e : Env} {s : State} {m : MethodId} {args : Array Value} {below : List Frame} {meth : Method} {c : Code} {Q : State → Prop} {A : Nat → Prop} {G : va_G} {cyI cyZ : ClassId} {x : Nat} {ad : Nat → Nat} (X : rh_X p s m args c cX3_begin 1 RX3 wsX3_begin G [(cyI, .int), (cyZ, .boolean)] [] A) {f' : Nat → Int32} {g' : Nat → Nat → Int32} (ret : ∀ (H : Heap) (locs : List Loc) (ls : Array Slot) (pc : Nat), decode cX3_begin pc = .ok (.return_, 1) → rh_W G A s H locs (mw cyI cyZ x ad f' g') → W p l e rmX3_begin s m args below meth c H locs 0 0 Q (F0 m pc ls [])) : ∀ (H : Heap) (locs : List Loc) (ls : Array Slot) (f : Nat → Int32) (g : Nat → Nat → Int32), rh_W G A s H locs (mw cyI cyZ x ad f g) → lv_has ls 1 [(0, .ref x)] → sX3_begin f g = some (f', g') → W p l e rmX3_begin s m args below meth c H locs 0 0 Q (F0 m 0 ls []) := by
  have hx := X.1
  have hb := X.2.1
  have hown := X.2.2.2.1
  have hts := X.2.2.2.2.1
  have hK := X.2.2.2.2.2.1
  have hNN := X.2.2.2.2.2.2.1.2
  intro H locs ls f g h hl hs
  unfold sX3_begin at hs
  refine lv_aload_n hx hb dX3_begin_0 rfl (lv_at hl 0 rfl) ?_
  refine rh_get X h (v := .int (f 4)) iX3_begin_X3 0 10 rfl rfl (by decide) (by decide +kernel) rfl dX3_begin_1 ?_
  refine lv_if_eq (tgt := 8) hx hb dX3_begin_4 (by decide) (fun c1 => ?_) (fun c1 => ?_)
  · have hs := ite_p c1 hs
    refine lv_aload_n hx hb dX3_begin_8 rfl (lv_at hl 0 rfl) ?_
    refine lv_iconst (v := 1) hx hb dX3_begin_9 (by decide) ?_
    refine rh_put X h iX3_begin_X3 tyX3 tyX3_ok nmX3 0 10 rfl rfl (by decide) (by decide +kernel) rfl rfl rfl (Nat.le_of_ble_eq_true rfl) dX3_begin_10 (fun H locs h => ?_)
    have h : rh_W G A s H locs (mw cyI cyZ x ad (upd f 4 1) g) := mp_4 h
    refine lv_aload_n hx hb dX3_begin_13 rfl (lv_at hl 0 rfl) ?_
    refine lv_iconst (v := 0) hx hb dX3_begin_14 (by decide) ?_
    refine rh_put X h iX3_begin_X3 tyX3 tyX3_ok nmX3 0 11 rfl rfl (by decide) (by decide +kernel) rfl rfl rfl (Nat.le_of_ble_eq_true rfl) dX3_begin_15 (fun H locs h => ?_)
    have h : rh_W G A s H locs (mw cyI cyZ x ad (upd (upd f 4 1) 5 0) g) := mp_5 h
    refine lv_aload_n hx hb dX3_begin_18 rfl (lv_at hl 0 rfl) ?_
    refine lv_iconst (v := 0) hx hb dX3_begin_19 (by decide) ?_
    refine rh_put X h iX3_begin_X3 tyX3 tyX3_ok nmX3 0 12 rfl rfl (by decide) (by decide +kernel) rfl rfl rfl (Nat.le_of_ble_eq_true rfl) dX3_begin_20 (fun H locs h => ?_)
    have h : rh_W G A s H locs (mw cyI cyZ x ad (upd (upd (upd f 4 1) 5 0) 6 0) g) := mp_6 h
    refine lv_aload_n hx hb dX3_begin_23 rfl (lv_at hl 0 rfl) ?_
    refine lv_iconst (v := 0) hx hb dX3_begin_24 (by decide) ?_
    refine rh_put X h iX3_begin_X3 tyX3 tyX3_ok nmX3 0 13 rfl rfl (by decide) (by decide +kernel) rfl rfl rfl (Nat.le_of_ble_eq_true rfl) dX3_begin_25 (fun H locs h => ?_)
    have h : rh_W G A s H locs (mw cyI cyZ x ad (upd (upd (upd (upd f 4 1) 5 0) 6 0) 7 0) g) := mp_7 h
    refine lv_aload_n hx hb dX3_begin_28 rfl (lv_at hl 0 rfl) ?_
    refine rh_get X h (v := .ref (ad 4)) iX3_begin_X3 0 6 rfl rfl (by decide) (by decide +kernel) rfl dX3_begin_29 ?_
    refine lv_aload_n hx hb dX3_begin_32 rfl (lv_at hl 0 rfl) ?_
    obtain ⟨r2, h3, hs⟩ := bR_some hs
    refine rh_Vi X h (kX3_other l G (cyI := cyI) (cyZ := cyZ) (x := x) (ad := ad) h3) (cwV 0 hts gX3_begin_X3_other rfl rfl rfl (by decide +kernel) ⟨Nat.le_of_ble_eq_true rfl, Nat.le_of_ble_eq_true rfl⟩) (va_recv hK h.1 (ci := 3) (q0 := 0) rfl rfl) rfl hl.1 rfl (Nat.le_of_ble_eq_true rfl) dX3_begin_33 ⟨Nat.zero_le _, Nat.zero_le _⟩ (fun H locs h => ?_)
    refine lv_iconst (v := 0) hx hb dX3_begin_36 (by decide) ?_
    obtain ⟨i4, hs⟩ := wt_some hs
    refine rh_iast X h 4 0 rfl rfl i4 dX3_begin_37 (fun H locs h => ?_)
    have h : rh_W G A s H locs (mw cyI cyZ x ad (upd (upd (upd (upd f 4 1) 5 0) 6 0) 7 0) (ur g 3 (upd (g 3) r2.toNatClampNeg 0))) := mr_3 h
    cases hs
    exact ret _ _ _ _ dX3_begin_38 h
  · have hs := ite_n c1 hs
    cases hs
    exact ret _ _ _ _ dX3_begin_7 h
theorem kX3_begin (l : Launch) (G : va_G) {cyI cyZ : ClassId} {x : Nat} {ad : Nat → Nat} {f : Nat → Int32} {g : Nat → Nat → Int32} {f' : Nat → Int32} {g' : Nat → Nat → Int32} (hs : sX3_begin f g = some (f', g')) : rh_Mv l yX3_begin wsX3_begin rmX3_begin G [(cyI, .int), (cyZ, .boolean)] [] (mw cyI cyZ x ad f g) [.ref x] (mw cyI cyZ x ad f' g') :=
  rh_ofv (by decide +kernel) rfl (Nat.le_of_ble_eq_true rfl) (fun p e s m below meth c A Q X ret ls hl h => bX3_begin X ret _ _ ls f g h hl hs)
abbrev rmX3_open : Room := { frames := 0, cells := 0, slots := 0, locals := 0 }
set_option maxRecDepth 100000 in
theorem iX3_open_X3 : ∀ w ∈ u_ws RX3 TX3 22, w ∈ wsX3_open := by decide +kernel
def sX3_open (f : Nat → Int32) (g : Nat → Nat → Int32) : Option ((Nat → Int32) × (Nat → Nat → Int32)) := some (((upd f 13 (f 10)), g))
set_option maxHeartbeats 4000000 in
set_option maxRecDepth 100000 in
theorem bX3_open {p : Program} {l : Launch} {e : Env} {s : State} {m : MethodId} {args : Array Value} {below : List Frame} {meth : Method} {c : Code} {Q : State → Prop} {A : Nat → Prop} {G : va_G} {cyI cyZ : ClassId} {x : Nat} {ad : Nat → Nat} (X : rh_X p s m args c cX3_open 1 RX3 wsX3_open G [(cyI, .int), (cyZ, .boolean)] [] A) {f' : Nat → Int32} {g' : Nat → Nat → Int32} (ret : ∀ (H : Heap) (locs : List Loc) (ls : Array Slot) (pc : Nat), decode cX3_open pc = .ok (.return_, 1) → rh_W G A s H locs (mw cyI cyZ x ad f' g') → W p l e rmX3_open s m args below meth c H locs 0 0 Q (F0 m pc ls [])) : ∀ (H : Heap) (locs : List Loc) (ls : Array Slot) (f : Nat → Int32) (g : Nat → Nat → Int32), rh_W G A s H locs (mw cyI cyZ x ad f g) → lv_has ls 1 [(0, .ref x)] → sX3_open f g = some (f', g') → W p l e rmX3_open s m args below meth c H locs 0 0 Q (F0 m 0 ls []) := by
  have hx := X.1
  have hb := X.2.1
  have hown := X.2.2.2.1
  have hts := X.2.2.2.2.1
  have hK := X.2.2.2.2.2.1
  have hNN := X.2.2.2.2.2.2.1.2
  intro H locs ls f g h hl hs
  unfold sX3_open at hs
  refine lv_aload_n hx hb dX3_open_0 rfl (lv_at hl 0 rfl) ?_
  refine lv_aload_n hx hb dX3_open_1 rfl (lv_at hl 0 rfl) ?_
  refine rh_get X h (v := .int (f 10)) iX3_open_X3 0 18 rfl rfl (by decide) (by decide +kernel) rfl dX3_open_2 ?_
  refine rh_put X h iX3_open_X3 tyX3 tyX3_ok nmX3 0 21 rfl rfl (by decide) (by decide +kernel) rfl rfl rfl (Nat.le_of_ble_eq_true rfl) dX3_open_5 (fun H locs h => ?_)
  have h : rh_W G A s H locs (mw cyI cyZ x ad (upd f 13 (f 10)) g) := mp_13 h
  cases hs
  exact ret _ _ _ _ dX3_open_8 h
theorem kX3_open (l : Launch) (G : va_G) {cyI cyZ : ClassId} {x : Nat} {ad : Nat → Nat} {f : Nat → Int32} {g : Nat → Nat → Int32} {f' : Nat → Int32} {g' : Nat → Nat → Int32} (hs : sX3_open f g = some (f', g')) : rh_Mv l yX3_open wsX3_open rmX3_open G [(cyI, .int), (cyZ, .boolean)] [] (mw cyI cyZ x ad f g) [.ref x] (mw cyI cyZ x ad f' g') :=
  rh_ofv (by decide +kernel) rfl (Nat.le_of_ble_eq_true rfl) (fun p e s m below meth c A Q X ret ls hl h => bX3_open X ret _ _ ls f g h hl hs)
abbrev rmX3_close : Room := { frames := 0, cells := 0, slots := 0, locals := 0 }
set_option maxRecDepth 100000 in
theorem iX3_close_X3 : ∀ w ∈ u_ws RX3 TX3 22, w ∈ wsX3_close := by decide +kernel
def sX3_close (f : Nat → Int32) (g : Nat → Nat → Int32) : Option ((Nat → Int32) × (Nat → Nat → Int32)) := if ((f 10) - (f 13)) ≤ (f 11) then (some (((upd f 11 (f 11)), g))) else (lt ((f 10) - (f 13)) (fun z2 => some (((upd f 11 z2), g))))
set_option maxHeartbeats 4000000 in
set_option maxRecDepth 100000 in
theorem bX3_close {p : Program} {l : Launch} {e : Env} {s : State} {m : MethodId} {args : Array Value} {below : List Frame} {meth : Method} {c : Code} {Q : State → Prop} {A : Nat → Prop} {G : va_G} {cyI cyZ : ClassId} {x : Nat} {ad : Nat → Nat} (X : rh_X p s m args c cX3_close 1 RX3 wsX3_close G [(cyI, .int), (cyZ, .boolean)] [] A) {f' : Nat → Int32} {g' : Nat → Nat → Int32} (ret : ∀ (H : Heap) (locs : List Loc) (ls : Array Slot) (pc : Nat), decode cX3_close pc = .ok (.return_, 1) → rh_W G A s H locs (mw cyI cyZ x ad f' g') → W p l e rmX3_close s m args below meth c H locs 0 0 Q (F0 m pc ls [])) : ∀ (H : Heap) (locs : List Loc) (ls : Array Slot) (f : Nat → Int32) (g : Nat → Nat → Int32), rh_W G A s H locs (mw cyI cyZ x ad f g) → lv_has ls 1 [(0, .ref x)] → sX3_close f g = some (f', g') → W p l e rmX3_close s m args below meth c H locs 0 0 Q (F0 m 0 ls []) := by
  have hx := X.1
  have hb := X.2.1
  have hown := X.2.2.2.1
  have hts := X.2.2.2.2.1
  have hK := X.2.2.2.2.2.1
  have hNN := X.2.2.2.2.2.2.1.2
  intro H locs ls f g h hl hs
  unfold sX3_close at hs
  refine lv_aload_n hx hb dX3_close_0 rfl (lv_at hl 0 rfl) ?_
  refine lv_aload_n hx hb dX3_close_1 rfl (lv_at hl 0 rfl) ?_
  refine rh_get X h (v := .int (f 10)) iX3_close_X3 0 18 rfl rfl (by decide) (by decide +kernel) rfl dX3_close_2 ?_
  refine lv_aload_n hx hb dX3_close_5 rfl (lv_at hl 0 rfl) ?_
  refine rh_get X h (v := .int (f 13)) iX3_close_X3 0 21 rfl rfl (by decide) (by decide +kernel) rfl dX3_close_6 ?_
  refine lv_isub hx hb dX3_close_9 ?_
  refine lv_aload_n hx hb dX3_close_10 rfl (lv_at hl 0 rfl) ?_
  refine rh_get X h (v := .int (f 11)) iX3_close_X3 0 19 rfl rfl (by decide) (by decide +kernel) rfl dX3_close_11 ?_
  refine lv_icmp_le (tgt := 29) hx hb dX3_close_14 (by decide) (fun c1 => ?_) (fun c1 => ?_)
  · have hs := ite_p c1 hs
    refine lv_aload_n hx hb dX3_close_29 rfl (lv_at hl 0 rfl) ?_
    refine rh_get X h (v := .int (f 11)) iX3_close_X3 0 19 rfl rfl (by decide) (by decide +kernel) rfl dX3_close_30 ?_
    refine rh_put X h iX3_close_X3 tyX3 tyX3_ok nmX3 0 19 rfl rfl (by decide) (by decide +kernel) rfl rfl rfl (Nat.le_of_ble_eq_true rfl) dX3_close_33 (fun H locs h => ?_)
    have h : rh_W G A s H locs (mw cyI cyZ x ad (upd f 11 (f 11)) g) := mp_11 h
    cases hs
    exact ret _ _ _ _ dX3_close_36 h
  · have hs := ite_n c1 hs
    refine lv_aload_n hx hb dX3_close_17 rfl (lv_at hl 0 rfl) ?_
    refine rh_get X h (v := .int (f 10)) iX3_close_X3 0 18 rfl rfl (by decide) (by decide +kernel) rfl dX3_close_18 ?_
    refine lv_aload_n hx hb dX3_close_21 rfl (lv_at hl 0 rfl) ?_
    refine rh_get X h (v := .int (f 13)) iX3_close_X3 0 21 rfl rfl (by decide) (by decide +kernel) rfl dX3_close_22 ?_
    refine lv_isub hx hb dX3_close_25 ?_
    refine lv_goto (tgt := 33) hx hb dX3_close_26 (by decide) ?_
    obtain ⟨z2, e3, hs⟩ := lt_some hs
    refine rh_top e3 ?_
    refine rh_put X h iX3_close_X3 tyX3 tyX3_ok nmX3 0 19 rfl rfl (by decide) (by decide +kernel) rfl rfl rfl (Nat.le_of_ble_eq_true rfl) dX3_close_33 (fun H locs h => ?_)
    have h : rh_W G A s H locs (mw cyI cyZ x ad (upd f 11 z2) g) := mp_11 h
    cases hs
    exact ret _ _ _ _ dX3_close_36 h
theorem kX3_close (l : Launch) (G : va_G) {cyI cyZ : ClassId} {x : Nat} {ad : Nat → Nat} {f : Nat → Int32} {g : Nat → Nat → Int32} {f' : Nat → Int32} {g' : Nat → Nat → Int32} (hs : sX3_close f g = some (f', g')) : rh_Mv l yX3_close wsX3_close rmX3_close G [(cyI, .int), (cyZ, .boolean)] [] (mw cyI cyZ x ad f g) [.ref x] (mw cyI cyZ x ad f' g') :=
  rh_ofv (by decide +kernel) rfl (Nat.le_of_ble_eq_true rfl) (fun p e s m below meth c A Q X ret ls hl h => bX3_close X ret _ _ ls f g h hl hs)
abbrev rmX3_isRoot : Room := { frames := 0, cells := 0, slots := 0, locals := 0 }
def sX3_isRoot (p0 : Int32) : Option Int32 := if p0 < 0 then (some (0)) else (if 16 ≤ p0 then (some (0)) else (some (1)))
set_option maxHeartbeats 4000000 in
set_option maxRecDepth 100000 in
theorem bX3_isRoot {p : Program} {l : Launch} {e : Env} {s : State} {m : MethodId} {args : Array Value} {below : List Frame} {meth : Method} {c : Code} {Q : State → Prop} {A : Nat → Prop} {G : va_G} {w : va_W} {tys : List (ClassId × FieldType)} {L0 : List Cond} (X : rh_X p s m args c cX3_isRoot 1 RX3 wsX3_isRoot G tys L0 A) {r' : Int32} (ret : ∀ (H : Heap) (locs : List Loc) (ls : Array Slot) (pc : Nat), narrow .boolean (.int r') = .int r' → decode cX3_isRoot pc = .ok (.ireturn, 1) → rh_W G A s H locs (w) → W p l e rmX3_isRoot s m args below meth c H locs 0 0 Q (F0 m pc ls [.int r'])) : ∀ (H : Heap) (locs : List Loc) (ls : Array Slot) (p0 : Int32), rh_W G A s H locs (w) → lv_has ls 1 [(0, .int p0)] → sX3_isRoot  p0 = some r' → W p l e rmX3_isRoot s m args below meth c H locs 0 0 Q (F0 m 0 ls []) := by
  have hx := X.1
  have hb := X.2.1
  have hown := X.2.2.2.1
  have hts := X.2.2.2.2.1
  have hK := X.2.2.2.2.2.1
  have hNN := X.2.2.2.2.2.2.1.2
  intro H locs ls p0 h hl hs
  unfold sX3_isRoot at hs
  refine lv_iload_n hx hb dX3_isRoot_0 rfl (lv_at hl 0 rfl) ?_
  refine lv_if_lt (tgt := 14) hx hb dX3_isRoot_1 (by decide) (fun c1 => ?_) (fun c1 => ?_)
  · have hs := ite_p c1 hs
    refine lv_iconst (v := 0) hx hb dX3_isRoot_14 (by decide) ?_
    cases hs
    exact ret _ _ _ _ rfl dX3_isRoot_15 h
  · have hs := ite_n c1 hs
    refine lv_iload_n hx hb dX3_isRoot_4 rfl (lv_at hl 0 rfl) ?_
    refine lv_bipush (v := 16) hx hb dX3_isRoot_5 (by decide) ?_
    refine lv_icmp_ge (tgt := 14) hx hb dX3_isRoot_7 (by decide) (fun c2 => ?_) (fun c2 => ?_)
    · have hs := ite_p c2 hs
      refine lv_iconst (v := 0) hx hb dX3_isRoot_14 (by decide) ?_
      cases hs
      exact ret _ _ _ _ rfl dX3_isRoot_15 h
    · have hs := ite_n c2 hs
      refine lv_iconst (v := 1) hx hb dX3_isRoot_10 (by decide) ?_
      refine lv_goto (tgt := 15) hx hb dX3_isRoot_11 (by decide) ?_
      cases hs
      exact ret _ _ _ _ rfl dX3_isRoot_15 h
theorem kX3_isRoot (l : Launch) (G : va_G) {w : va_W} {tys : List (ClassId × FieldType)} {L0 : List Cond} {p0 : Int32} {r' : Int32} (hs : sX3_isRoot  p0 = some r') : rh_Mi l yX3_isRoot wsX3_isRoot rmX3_isRoot G tys L0 (w) [.int p0] r' (w) :=
  rh_ofi (by decide +kernel) rfl (Nat.le_of_ble_eq_true rfl) (fun p e s m below meth c A Q X ret ls hl h => bX3_isRoot X ret _ _ ls p0 h hl hs)
abbrev rmX3_has : Room := { frames := 0, cells := 0, slots := 0, locals := 0 }
set_option maxRecDepth 100000 in
theorem iX3_has_X3 : ∀ w ∈ u_ws RX3 TX3 22, w ∈ wsX3_has := by decide +kernel
def sX3_has (f : Nat → Int32) (g : Nat → Nat → Int32) (p1 : Int32) : Option Int32 := rd (g 3) 2 (f 3) (fun v1 => if (f 1) < ((v1 + p1) + 1) then (some (0)) else (some (1)))
set_option maxHeartbeats 4000000 in
set_option maxRecDepth 100000 in
theorem bX3_has {p : Program} {l : Launch} {e : Env} {s : State} {m : MethodId} {args : Array Value} {below : List Frame} {meth : Method} {c : Code} {Q : State → Prop} {A : Nat → Prop} {G : va_G} {cyI cyZ : ClassId} {x : Nat} {ad : Nat → Nat} {f : Nat → Int32} {g : Nat → Nat → Int32} (X : rh_X p s m args c cX3_has 2 RX3 wsX3_has G [(cyI, .int), (cyZ, .boolean)] [] A) {r' : Int32} (ret : ∀ (H : Heap) (locs : List Loc) (ls : Array Slot) (pc : Nat), narrow .boolean (.int r') = .int r' → decode cX3_has pc = .ok (.ireturn, 1) → rh_W G A s H locs (mw cyI cyZ x ad f g) → W p l e rmX3_has s m args below meth c H locs 0 0 Q (F0 m pc ls [.int r'])) : ∀ (H : Heap) (locs : List Loc) (ls : Array Slot) (p1 : Int32), rh_W G A s H locs (mw cyI cyZ x ad f g) → lv_has ls 2 [(0, .ref x), (1, .int p1)] → sX3_has f g p1 = some r' → W p l e rmX3_has s m args below meth c H locs 0 0 Q (F0 m 0 ls []) := by
  have hx := X.1
  have hb := X.2.1
  have hown := X.2.2.2.1
  have hts := X.2.2.2.2.1
  have hK := X.2.2.2.2.2.1
  have hNN := X.2.2.2.2.2.2.1.2
  intro H locs ls p1 h hl hs
  unfold sX3_has at hs
  refine lv_aload_n hx hb dX3_has_0 rfl (lv_at hl 0 rfl) ?_
  refine rh_get X h (v := .ref (ad 4)) iX3_has_X3 0 6 rfl rfl (by decide) (by decide +kernel) rfl dX3_has_1 ?_
  refine lv_aload_n hx hb dX3_has_4 rfl (lv_at hl 0 rfl) ?_
  refine rh_get X h (v := .int (f 3)) iX3_has_X3 0 7 rfl rfl (by decide) (by decide +kernel) rfl dX3_has_5 ?_
  obtain ⟨i3, v1, e2, hs⟩ := rd_some hs
  refine rh_iald X h 4 0 rfl rfl i3 e2 dX3_has_8 ?_
  refine lv_iload_n hx hb dX3_has_9 rfl (lv_at hl 1 rfl) ?_
  refine lv_iadd hx hb dX3_has_10 ?_
  refine lv_iconst (v := 1) hx hb dX3_has_11 (by decide) ?_
  refine lv_iadd hx hb dX3_has_12 ?_
  refine lv_aload_n hx hb dX3_has_13 rfl (lv_at hl 0 rfl) ?_
  refine rh_get X h (v := .int (f 1)) iX3_has_X3 0 1 rfl rfl (by decide) (by decide +kernel) rfl dX3_has_14 ?_
  refine lv_icmp_gt (tgt := 24) hx hb dX3_has_17 (by decide) (fun c4 => ?_) (fun c4 => ?_)
  · have hs := ite_p c4 hs
    refine lv_iconst (v := 0) hx hb dX3_has_24 (by decide) ?_
    cases hs
    exact ret _ _ _ _ rfl dX3_has_25 h
  · have hs := ite_n c4 hs
    refine lv_iconst (v := 1) hx hb dX3_has_20 (by decide) ?_
    refine lv_goto (tgt := 25) hx hb dX3_has_21 (by decide) ?_
    cases hs
    exact ret _ _ _ _ rfl dX3_has_25 h
theorem kX3_has (l : Launch) (G : va_G) {cyI cyZ : ClassId} {x : Nat} {ad : Nat → Nat} {f : Nat → Int32} {g : Nat → Nat → Int32} {p1 : Int32} {r' : Int32} (hs : sX3_has f g p1 = some r') : rh_Mi l yX3_has wsX3_has rmX3_has G [(cyI, .int), (cyZ, .boolean)] [] (mw cyI cyZ x ad f g) [.ref x, .int p1] r' (mw cyI cyZ x ad f g) :=
  rh_ofi (by decide +kernel) rfl (Nat.le_of_ble_eq_true rfl) (fun p e s m below meth c A Q X ret ls hl h => bX3_has X ret _ _ ls p1 h hl hs)
abbrev rmX3_pause : Room := { frames := 6, cells := 0, slots := 0, locals := 136 }
set_option maxRecDepth 100000 in
theorem iX3_pause_X3 : ∀ w ∈ u_ws RX3 TX3 22, w ∈ wsX3_pause := by decide +kernel
def sX3_pause (f : Nat → Int32) (g : Nat → Nat → Int32) : Option ((Nat → Int32) × (Nat → Nat → Int32)) := lt ((f 9) + 1) (fun z1 => bWv (sX3_begin (upd f 9 z1) g) (fun f3 g4 => bWi (sX3_work f3 g4 (-1)) (fun r6 f7 g8 => some ((f7, g8)))))
set_option maxHeartbeats 4000000 in
set_option maxRecDepth 100000 in
theorem bX3_pause {p : Program} {l : Launch} {e : Env} {s : State} {m : MethodId} {args : Array Value} {below : List Frame} {meth : Method} {c : Code} {Q : State → Prop} {A : Nat → Prop} {G : va_G} {cyI cyZ : ClassId} {x : Nat} {ad : Nat → Nat} (X : rh_X p s m args c cX3_pause 2 RX3 wsX3_pause G [(cyI, .int), (cyZ, .boolean)] [] A) {f' : Nat → Int32} {g' : Nat → Nat → Int32} (ret : ∀ (H : Heap) (locs : List Loc) (ls : Array Slot) (pc : Nat), decode cX3_pause pc = .ok (.return_, 1) → rh_W G A s H locs (mw cyI cyZ x ad f' g') → W p l e rmX3_pause s m args below meth c H locs 0 0 Q (F0 m pc ls [])) : ∀ (H : Heap) (locs : List Loc) (ls : Array Slot) (f : Nat → Int32) (g : Nat → Nat → Int32), rh_W G A s H locs (mw cyI cyZ x ad f g) → lv_has ls 2 [(0, .ref x)] → sX3_pause f g = some (f', g') → W p l e rmX3_pause s m args below meth c H locs 0 0 Q (F0 m 0 ls []) := by
  have hx := X.1
  have hb := X.2.1
  have hown := X.2.2.2.1
  have hts := X.2.2.2.2.1
  have hK := X.2.2.2.2.2.1
  have hNN := X.2.2.2.2.2.2.1.2
  intro H locs ls f g h hl hs
  unfold sX3_pause at hs
  refine lv_aload_n hx hb dX3_pause_0 rfl (lv_at hl 0 rfl) ?_
  refine lv_dup hx hb dX3_pause_1 rfl ?_
  refine rh_get X h (v := .int (f 9)) iX3_pause_X3 0 17 rfl rfl (by decide) (by decide +kernel) rfl dX3_pause_2 ?_
  refine lv_iconst (v := 1) hx hb dX3_pause_5 (by decide) ?_
  refine lv_iadd hx hb dX3_pause_6 ?_
  obtain ⟨z1, e2, hs⟩ := lt_some hs
  refine rh_top e2 ?_
  refine rh_put X h iX3_pause_X3 tyX3 tyX3_ok nmX3 0 17 rfl rfl (by decide) (by decide +kernel) rfl rfl rfl (Nat.le_of_ble_eq_true rfl) dX3_pause_7 (fun H locs h => ?_)
  have h : rh_W G A s H locs (mw cyI cyZ x ad (upd f 9 z1) g) := mp_9 h
  refine lv_aload_n hx hb dX3_pause_10 rfl (lv_at hl 0 rfl) ?_
  obtain ⟨f3, g4, h5, hs⟩ := bWv_some hs
  refine rh_Vv X h (kX3_begin l G (cyI := cyI) (cyZ := cyZ) (x := x) (ad := ad) h5) (cwV 0 hts gX3_pause_X3_begin rfl rfl rfl (by decide +kernel) ⟨Nat.le_of_ble_eq_true rfl, Nat.le_of_ble_eq_true rfl⟩) (va_recv hK h.1 (ci := 3) (q0 := 0) rfl rfl) rfl hl.1 rfl (Nat.le_of_ble_eq_true rfl) dX3_pause_11 ⟨Nat.zero_le _, Nat.zero_le _⟩ (fun H locs h => ?_)
  refine lv_aload_n hx hb dX3_pause_14 rfl (lv_at hl 0 rfl) ?_
  refine lv_iconst (v := (-1)) hx hb dX3_pause_15 (by decide) ?_
  obtain ⟨r6, f7, g8, h9, hs⟩ := bWi_some hs
  refine rh_Vi X h (kX3_work l G (cyI := cyI) (cyZ := cyZ) (x := x) (ad := ad) h9) (cwV 1 hts gX3_pause_X3_work rfl rfl rfl (by decide +kernel) ⟨Nat.le_of_ble_eq_true rfl, Nat.le_of_ble_eq_true rfl⟩) (va_recv hK h.1 (ci := 3) (q0 := 0) rfl rfl) rfl hl.1 rfl (Nat.le_of_ble_eq_true rfl) dX3_pause_16 ⟨Nat.zero_le _, Nat.zero_le _⟩ (fun H locs h => ?_)
  refine lv_istore_n (lv' := [(1, .int r6), (0, .ref x)]) hx hb dX3_pause_19 rfl hl (by decide) rfl (fun ls hl => ?_)
  cases hs
  exact ret _ _ _ _ dX3_pause_20 h
theorem kX3_pause (l : Launch) (G : va_G) {cyI cyZ : ClassId} {x : Nat} {ad : Nat → Nat} {f : Nat → Int32} {g : Nat → Nat → Int32} {f' : Nat → Int32} {g' : Nat → Nat → Int32} (hs : sX3_pause f g = some (f', g')) : rh_Mv l yX3_pause wsX3_pause rmX3_pause G [(cyI, .int), (cyZ, .boolean)] [] (mw cyI cyZ x ad f g) [.ref x] (mw cyI cyZ x ad f' g') :=
  rh_ofv (by decide +kernel) rfl (Nat.le_of_ble_eq_true rfl) (fun p e s m below meth c A Q X ret ls hl h => bX3_pause X ret _ _ ls f g h hl hs)
abbrev rmX3_hasField : Room := { frames := 1, cells := 0, slots := 0, locals := 21 }
set_option maxRecDepth 100000 in
theorem iX3_hasField_X3 : ∀ w ∈ u_ws RX3 TX3 22, w ∈ wsX3_hasField := by decide +kernel
def sX3_hasField_41 (f : Nat → Int32) (g : Nat → Nat → Int32) (t0 : Int32) (t2 : Int32) (t3 : Int32) : Option Int32 := bR (sX3_at  t2 t3) (fun r10 => rd (g 1) 800 r10 (fun v12 => if v12 ≤ t0 then (some (0)) else (some (1))))
set_option maxHeartbeats 4000000 in
set_option maxRecDepth 100000 in
theorem bX3_hasField_41 {p : Program} {l : Launch} {e : Env} {s : State} {m : MethodId} {args : Array Value} {below : List Frame} {meth : Method} {c : Code} {Q : State → Prop} {A : Nat → Prop} {G : va_G} {cyI cyZ : ClassId} {x : Nat} {ad : Nat → Nat} {f : Nat → Int32} {g : Nat → Nat → Int32} (X : rh_X p s m args c cX3_hasField 3 RX3 wsX3_hasField G [(cyI, .int), (cyZ, .boolean)] [] A) {r' : Int32} (ret : ∀ (H : Heap) (locs : List Loc) (ls : Array Slot) (pc : Nat), narrow .boolean (.int r') = .int r' → decode cX3_hasField pc = .ok (.ireturn, 1) → rh_W G A s H locs (mw cyI cyZ x ad f g) → W p l e rmX3_hasField s m args below meth c H locs 0 0 Q (F0 m pc ls [.int r'])) : ∀ (H : Heap) (locs : List Loc) (ls : Array Slot) (t0 : Int32) (t2 : Int32) (t3 : Int32), rh_W G A s H locs (mw cyI cyZ x ad f g) → lv_has ls 3 [] → sX3_hasField_41 f g t0 t2 t3 = some r' → W p l e rmX3_hasField s m args below meth c H locs 0 0 Q (F0 m 41 ls [.int t3, .int t2, .ref (ad 2), .int t0]) := by
  have hx := X.1
  have hb := X.2.1
  have hown := X.2.2.2.1
  have hts := X.2.2.2.2.1
  have hK := X.2.2.2.2.2.1
  have hNN := X.2.2.2.2.2.2.1.2
  intro H locs ls t0 t2 t3 h hl hs
  unfold sX3_hasField_41 at hs
  obtain ⟨r10, h11, hs⟩ := bR_some hs
  refine rh_Si X h (kX3_at l G h11) (va_cwS 2 hts gX3_hasField_X3_at rfl rfl rfl (by decide +kernel) ⟨Nat.le_of_ble_eq_true rfl, Nat.le_of_ble_eq_true rfl⟩) rfl hl.1 rfl (Nat.le_of_ble_eq_true rfl) dX3_hasField_41 ⟨Nat.zero_le _, Nat.zero_le _⟩ (fun H locs h => ?_)
  obtain ⟨i14, v12, e13, hs⟩ := rd_some hs
  refine rh_iald X h 2 0 rfl rfl i14 e13 dX3_hasField_44 ?_
  refine lv_icmp_ge (tgt := 52) hx hb dX3_hasField_45 (by decide) (fun c15 => ?_) (fun c15 => ?_)
  · have hs := ite_p c15 hs
    refine lv_iconst (v := 0) hx hb dX3_hasField_52 (by decide) ?_
    cases hs
    exact ret _ _ _ _ rfl dX3_hasField_53 h
  · have hs := ite_n c15 hs
    refine lv_iconst (v := 1) hx hb dX3_hasField_48 (by decide) ?_
    refine lv_goto (tgt := 53) hx hb dX3_hasField_49 (by decide) ?_
    cases hs
    exact ret _ _ _ _ rfl dX3_hasField_53 h
def sX3_hasField (f : Nat → Int32) (g : Nat → Nat → Int32) (p1 : Int32) (p2 : Int32) : Option Int32 := rd (g 4) 16 p1 (fun v1 => if v1 = 0 then (some (0)) else (if p2 < 0 then (some (0)) else (rd (g 4) 16 p1 (fun v6 => if v6 = 0 then (sX3_hasField_41 f g p2 (f 3) 0) else (rd (g 5) 16 p1 (fun v16 => sX3_hasField_41 f g p2 (f 3) v16))))))
set_option maxHeartbeats 4000000 in
set_option maxRecDepth 100000 in
theorem bX3_hasField {p : Program} {l : Launch} {e : Env} {s : State} {m : MethodId} {args : Array Value} {below : List Frame} {meth : Method} {c : Code} {Q : State → Prop} {A : Nat → Prop} {G : va_G} {cyI cyZ : ClassId} {x : Nat} {ad : Nat → Nat} {f : Nat → Int32} {g : Nat → Nat → Int32} (X : rh_X p s m args c cX3_hasField 3 RX3 wsX3_hasField G [(cyI, .int), (cyZ, .boolean)] [] A) {r' : Int32} (ret : ∀ (H : Heap) (locs : List Loc) (ls : Array Slot) (pc : Nat), narrow .boolean (.int r') = .int r' → decode cX3_hasField pc = .ok (.ireturn, 1) → rh_W G A s H locs (mw cyI cyZ x ad f g) → W p l e rmX3_hasField s m args below meth c H locs 0 0 Q (F0 m pc ls [.int r'])) : ∀ (H : Heap) (locs : List Loc) (ls : Array Slot) (p1 : Int32) (p2 : Int32), rh_W G A s H locs (mw cyI cyZ x ad f g) → lv_has ls 3 [(0, .ref x), (1, .int p1), (2, .int p2)] → sX3_hasField f g p1 p2 = some r' → W p l e rmX3_hasField s m args below meth c H locs 0 0 Q (F0 m 0 ls []) := by
  have hx := X.1
  have hb := X.2.1
  have hown := X.2.2.2.1
  have hts := X.2.2.2.2.1
  have hK := X.2.2.2.2.2.1
  have hNN := X.2.2.2.2.2.2.1.2
  intro H locs ls p1 p2 h hl hs
  unfold sX3_hasField at hs
  refine lv_aload_n hx hb dX3_hasField_0 rfl (lv_at hl 0 rfl) ?_
  refine rh_get X h (v := .ref (ad 5)) iX3_hasField_X3 0 8 rfl rfl (by decide) (by decide +kernel) rfl dX3_hasField_1 ?_
  refine lv_iload_n hx hb dX3_hasField_4 rfl (lv_at hl 1 rfl) ?_
  obtain ⟨i3, v1, e2, hs⟩ := rd_some hs
  refine rh_zald X h 5 1 rfl rfl i3 e2 dX3_hasField_5 ?_
  refine lv_if_eq (tgt := 52) hx hb dX3_hasField_6 (by decide) (fun c4 => ?_) (fun c4 => ?_)
  · have hs := ite_p c4 hs
    refine lv_iconst (v := 0) hx hb dX3_hasField_52 (by decide) ?_
    cases hs
    exact ret _ _ _ _ rfl dX3_hasField_53 h
  · have hs := ite_n c4 hs
    refine lv_iload_n hx hb dX3_hasField_9 rfl (lv_at hl 2 rfl) ?_
    refine lv_if_lt (tgt := 52) hx hb dX3_hasField_10 (by decide) (fun c5 => ?_) (fun c5 => ?_)
    · have hs := ite_p c5 hs
      refine lv_iconst (v := 0) hx hb dX3_hasField_52 (by decide) ?_
      cases hs
      exact ret _ _ _ _ rfl dX3_hasField_53 h
    · have hs := ite_n c5 hs
      refine lv_iload_n hx hb dX3_hasField_13 rfl (lv_at hl 2 rfl) ?_
      refine lv_aload_n hx hb dX3_hasField_14 rfl (lv_at hl 0 rfl) ?_
      refine rh_get X h (v := .ref (ad 2)) iX3_hasField_X3 0 4 rfl rfl (by decide) (by decide +kernel) rfl dX3_hasField_15 ?_
      refine lv_aload_n hx hb dX3_hasField_18 rfl (lv_at hl 0 rfl) ?_
      refine rh_get X h (v := .int (f 3)) iX3_hasField_X3 0 7 rfl rfl (by decide) (by decide +kernel) rfl dX3_hasField_19 ?_
      refine lv_aload_n hx hb dX3_hasField_22 rfl (lv_at hl 0 rfl) ?_
      refine rh_get X h (v := .ref (ad 5)) iX3_hasField_X3 0 8 rfl rfl (by decide) (by decide +kernel) rfl dX3_hasField_23 ?_
      refine lv_iload_n hx hb dX3_hasField_26 rfl (lv_at hl 1 rfl) ?_
      obtain ⟨i8, v6, e7, hs⟩ := rd_some hs
      refine rh_zald X h 5 1 rfl rfl i8 e7 dX3_hasField_27 ?_
      refine lv_if_eq (tgt := 40) hx hb dX3_hasField_28 (by decide) (fun c9 => ?_) (fun c9 => ?_)
      · have hs := ite_p c9 hs
        refine lv_iconst (v := 0) hx hb dX3_hasField_40 (by decide) ?_
        exact bX3_hasField_41 X ret  _ _ _  p2 (f 3) 0 h (lv_sub hl [] rfl) hs
      · have hs := ite_n c9 hs
        refine lv_aload_n hx hb dX3_hasField_31 rfl (lv_at hl 0 rfl) ?_
        refine rh_get X h (v := .ref (ad 6)) iX3_hasField_X3 0 9 rfl rfl (by decide) (by decide +kernel) rfl dX3_hasField_32 ?_
        refine lv_iload_n hx hb dX3_hasField_35 rfl (lv_at hl 1 rfl) ?_
        obtain ⟨i18, v16, e17, hs⟩ := rd_some hs
        refine rh_iald X h 6 0 rfl rfl i18 e17 dX3_hasField_36 ?_
        refine lv_goto (tgt := 41) hx hb dX3_hasField_37 (by decide) ?_
        exact bX3_hasField_41 X ret  _ _ _  p2 (f 3) v16 h (lv_sub hl [] rfl) hs
theorem kX3_hasField (l : Launch) (G : va_G) {cyI cyZ : ClassId} {x : Nat} {ad : Nat → Nat} {f : Nat → Int32} {g : Nat → Nat → Int32} {p1 : Int32} {p2 : Int32} {r' : Int32} (hs : sX3_hasField f g p1 p2 = some r') : rh_Mi l yX3_hasField wsX3_hasField rmX3_hasField G [(cyI, .int), (cyZ, .boolean)] [] (mw cyI cyZ x ad f g) [.ref x, .int p1, .int p2] r' (mw cyI cyZ x ad f g) :=
  rh_ofi (by decide +kernel) rfl (Nat.le_of_ble_eq_true rfl) (fun p e s m below meth c A Q X ret ls hl h => bX3_hasField X ret _ _ ls p1 p2 h hl hs)
abbrev rmX3_change : Room := { frames := 6, cells := 0, slots := 0, locals := 136 }
set_option maxRecDepth 100000 in
theorem iX3_change_X3 : ∀ w ∈ u_ws RX3 TX3 22, w ∈ wsX3_change := by decide +kernel
def sX3_change (f : Nat → Int32) (g : Nat → Nat → Int32) (p1 : Int32) (p2 : Int32) (p3 : Int32) (p4 : Int32) : Option ((Nat → Int32) × (Nat → Nat → Int32)) := rd (g 5) 16 p1 (fun v1 => bR (sX3_at  (f 3) v1) (fun r4 => wt 800 ((r4 + 1) + p2) (wt 800 ((r4 + 1) + p2) (if (f 4) = 0 then (some ((f, (ur (ur g 0 (upd (g 0) ((r4 + 1) + p2).toNatClampNeg p3)) 1 (upd (g 1) ((r4 + 1) + p2).toNatClampNeg p4))))) else (bWv (sX3_open f (ur (ur g 0 (upd (g 0) ((r4 + 1) + p2).toNatClampNeg p3)) 1 (upd (g 1) ((r4 + 1) + p2).toNatClampNeg p4))) (fun f9 g10 => rd (g10 5) 16 p1 (fun v12 => wt 4096 (f9 6) (wt 4096 (f9 6) (lt ((f9 6) + 1) (fun z17 => bWi (sX3_work (upd f9 6 z17) (ur (ur g10 6 (upd (g10 6) (f9 6).toNatClampNeg v12)) 7 (upd (g10 7) (f9 6).toNatClampNeg p2)) (f9 2)) (fun r19 f20 g21 => bWv (sX3_close f20 g21) (fun f23 g24 => some ((f23, g24))))))))))))))
set_option maxHeartbeats 4000000 in
set_option maxRecDepth 100000 in
theorem bX3_change {p : Program} {l : Launch} {e : Env} {s : State} {m : MethodId} {args : Array Value} {below : List Frame} {meth : Method} {c : Code} {Q : State → Prop} {A : Nat → Prop} {G : va_G} {cyI cyZ : ClassId} {x : Nat} {ad : Nat → Nat} (X : rh_X p s m args c cX3_change 7 RX3 wsX3_change G [(cyI, .int), (cyZ, .boolean)] [] A) {f' : Nat → Int32} {g' : Nat → Nat → Int32} (ret : ∀ (H : Heap) (locs : List Loc) (ls : Array Slot) (pc : Nat), decode cX3_change pc = .ok (.return_, 1) → rh_W G A s H locs (mw cyI cyZ x ad f' g') → W p l e rmX3_change s m args below meth c H locs 0 0 Q (F0 m pc ls [])) : ∀ (H : Heap) (locs : List Loc) (ls : Array Slot) (f : Nat → Int32) (g : Nat → Nat → Int32) (p1 : Int32) (p2 : Int32) (p3 : Int32) (p4 : Int32), rh_W G A s H locs (mw cyI cyZ x ad f g) → lv_has ls 7 [(0, .ref x), (1, .int p1), (2, .int p2), (3, .int p3), (4, .int p4)] → sX3_change f g p1 p2 p3 p4 = some (f', g') → W p l e rmX3_change s m args below meth c H locs 0 0 Q (F0 m 0 ls []) := by
  have hx := X.1
  have hb := X.2.1
  have hown := X.2.2.2.1
  have hts := X.2.2.2.2.1
  have hK := X.2.2.2.2.2.1
  have hNN := X.2.2.2.2.2.2.1.2
  intro H locs ls f g p1 p2 p3 p4 h hl hs
  unfold sX3_change at hs
  refine lv_aload_n hx hb dX3_change_0 rfl (lv_at hl 0 rfl) ?_
  refine rh_get X h (v := .int (f 3)) iX3_change_X3 0 7 rfl rfl (by decide) (by decide +kernel) rfl dX3_change_1 ?_
  refine lv_aload_n hx hb dX3_change_4 rfl (lv_at hl 0 rfl) ?_
  refine rh_get X h (v := .ref (ad 6)) iX3_change_X3 0 9 rfl rfl (by decide) (by decide +kernel) rfl dX3_change_5 ?_
  refine lv_iload_n hx hb dX3_change_8 rfl (lv_at hl 1 rfl) ?_
  obtain ⟨i3, v1, e2, hs⟩ := rd_some hs
  refine rh_iald X h 6 0 rfl rfl i3 e2 dX3_change_9 ?_
  obtain ⟨r4, h5, hs⟩ := bR_some hs
  refine rh_Si X h (kX3_at l G h5) (va_cwS 2 hts gX3_change_X3_at rfl rfl rfl (by decide +kernel) ⟨Nat.le_of_ble_eq_true rfl, Nat.le_of_ble_eq_true rfl⟩) rfl hl.1 rfl (Nat.le_of_ble_eq_true rfl) dX3_change_10 ⟨Nat.zero_le _, Nat.zero_le _⟩ (fun H locs h => ?_)
  refine lv_iconst (v := 1) hx hb dX3_change_13 (by decide) ?_
  refine lv_iadd hx hb dX3_change_14 ?_
  refine lv_iload_n hx hb dX3_change_15 rfl (lv_at hl 2 rfl) ?_
  refine lv_iadd hx hb dX3_change_16 ?_
  refine lv_istore (lv' := [(5, .int ((r4 + 1) + p2)), (0, .ref x), (1, .int p1), (2, .int p2), (3, .int p3), (4, .int p4)]) hx hb dX3_change_17 hl (by decide) rfl (fun ls hl => ?_)
  refine lv_aload_n hx hb dX3_change_19 rfl (lv_at hl 1 rfl) ?_
  refine rh_get X h (v := .ref (ad 1)) iX3_change_X3 0 3 rfl rfl (by decide) (by decide +kernel) rfl dX3_change_20 ?_
  refine lv_iload hx hb dX3_change_23 (lv_at hl 0 rfl) ?_
  refine lv_iload_n hx hb dX3_change_25 rfl (lv_at hl 4 rfl) ?_
  obtain ⟨i6, hs⟩ := wt_some hs
  refine rh_iast X h 1 0 rfl rfl i6 dX3_change_26 (fun H locs h => ?_)
  have h : rh_W G A s H locs (mw cyI cyZ x ad f (ur g 0 (upd (g 0) ((r4 + 1) + p2).toNatClampNeg p3))) := mr_0 h
  refine lv_aload_n hx hb dX3_change_27 rfl (lv_at hl 1 rfl) ?_
  refine rh_get X h (v := .ref (ad 2)) iX3_change_X3 0 4 rfl rfl (by decide) (by decide +kernel) rfl dX3_change_28 ?_
  refine lv_iload hx hb dX3_change_31 (lv_at hl 0 rfl) ?_
  refine lv_iload hx hb dX3_change_33 (lv_at hl 5 rfl) ?_
  obtain ⟨i7, hs⟩ := wt_some hs
  refine rh_iast X h 2 0 rfl rfl i7 dX3_change_35 (fun H locs h => ?_)
  have h : rh_W G A s H locs (mw cyI cyZ x ad f (ur (ur g 0 (upd (g 0) ((r4 + 1) + p2).toNatClampNeg p3)) 1 (upd (g 1) ((r4 + 1) + p2).toNatClampNeg p4))) := mr_1 h
  refine lv_aload_n hx hb dX3_change_36 rfl (lv_at hl 1 rfl) ?_
  refine rh_get X h (v := .int (f 4)) iX3_change_X3 0 10 rfl rfl (by decide) (by decide +kernel) rfl dX3_change_37 ?_
  refine lv_if_ne (tgt := 44) hx hb dX3_change_40 (by decide) (fun c8 => ?_) (fun c8 => ?_)
  · have hs := ite_n c8 hs
    refine lv_aload_n hx hb dX3_change_44 rfl (lv_at hl 1 rfl) ?_
    obtain ⟨f9, g10, h11, hs⟩ := bWv_some hs
    refine rh_Vv X h (kX3_open l G (cyI := cyI) (cyZ := cyZ) (x := x) (ad := ad) h11) (cwV 0 hts gX3_change_X3_open rfl rfl rfl (by decide +kernel) ⟨Nat.le_of_ble_eq_true rfl, Nat.le_of_ble_eq_true rfl⟩) (va_recv hK h.1 (ci := 3) (q0 := 0) rfl rfl) rfl hl.1 rfl (Nat.le_of_ble_eq_true rfl) dX3_change_45 ⟨Nat.zero_le _, Nat.zero_le _⟩ (fun H locs h => ?_)
    refine lv_aload_n hx hb dX3_change_48 rfl (lv_at hl 1 rfl) ?_
    refine rh_get X h (v := .ref (ad 7)) iX3_change_X3 0 14 rfl rfl (by decide) (by decide +kernel) rfl dX3_change_49 ?_
    refine lv_aload_n hx hb dX3_change_52 rfl (lv_at hl 1 rfl) ?_
    refine rh_get X h (v := .int (f9 6)) iX3_change_X3 0 12 rfl rfl (by decide) (by decide +kernel) rfl dX3_change_53 ?_
    refine lv_aload_n hx hb dX3_change_56 rfl (lv_at hl 1 rfl) ?_
    refine rh_get X h (v := .ref (ad 6)) iX3_change_X3 0 9 rfl rfl (by decide) (by decide +kernel) rfl dX3_change_57 ?_
    refine lv_iload_n hx hb dX3_change_60 rfl (lv_at hl 2 rfl) ?_
    obtain ⟨i14, v12, e13, hs⟩ := rd_some hs
    refine rh_iald X h 6 0 rfl rfl i14 e13 dX3_change_61 ?_
    obtain ⟨i15, hs⟩ := wt_some hs
    refine rh_iast X h 7 0 rfl rfl i15 dX3_change_62 (fun H locs h => ?_)
    have h : rh_W G A s H locs (mw cyI cyZ x ad f9 (ur g10 6 (upd (g10 6) (f9 6).toNatClampNeg v12))) := mr_6 h
    refine lv_aload_n hx hb dX3_change_63 rfl (lv_at hl 1 rfl) ?_
    refine rh_get X h (v := .ref (ad 8)) iX3_change_X3 0 15 rfl rfl (by decide) (by decide +kernel) rfl dX3_change_64 ?_
    refine lv_aload_n hx hb dX3_change_67 rfl (lv_at hl 1 rfl) ?_
    refine rh_get X h (v := .int (f9 6)) iX3_change_X3 0 12 rfl rfl (by decide) (by decide +kernel) rfl dX3_change_68 ?_
    refine lv_iload_n hx hb dX3_change_71 rfl (lv_at hl 3 rfl) ?_
    obtain ⟨i16, hs⟩ := wt_some hs
    refine rh_iast X h 8 0 rfl rfl i16 dX3_change_72 (fun H locs h => ?_)
    have h : rh_W G A s H locs (mw cyI cyZ x ad f9 (ur (ur g10 6 (upd (g10 6) (f9 6).toNatClampNeg v12)) 7 (upd (g10 7) (f9 6).toNatClampNeg p2))) := mr_7 h
    refine lv_aload_n hx hb dX3_change_73 rfl (lv_at hl 1 rfl) ?_
    refine lv_dup hx hb dX3_change_74 rfl ?_
    refine rh_get X h (v := .int (f9 6)) iX3_change_X3 0 12 rfl rfl (by decide) (by decide +kernel) rfl dX3_change_75 ?_
    refine lv_iconst (v := 1) hx hb dX3_change_78 (by decide) ?_
    refine lv_iadd hx hb dX3_change_79 ?_
    obtain ⟨z17, e18, hs⟩ := lt_some hs
    refine rh_top e18 ?_
    refine rh_put X h iX3_change_X3 tyX3 tyX3_ok nmX3 0 12 rfl rfl (by decide) (by decide +kernel) rfl rfl rfl (Nat.le_of_ble_eq_true rfl) dX3_change_80 (fun H locs h => ?_)
    have h : rh_W G A s H locs (mw cyI cyZ x ad (upd f9 6 z17) (ur (ur g10 6 (upd (g10 6) (f9 6).toNatClampNeg v12)) 7 (upd (g10 7) (f9 6).toNatClampNeg p2))) := mp_6 h
    refine lv_aload_n hx hb dX3_change_83 rfl (lv_at hl 1 rfl) ?_
    refine lv_aload_n hx hb dX3_change_84 rfl (lv_at hl 1 rfl) ?_
    refine rh_get X h (v := .int (f9 2)) iX3_change_X3 0 2 rfl rfl (by decide) (by decide +kernel) rfl dX3_change_85 ?_
    obtain ⟨r19, f20, g21, h22, hs⟩ := bWi_some hs
    refine rh_Vi X h (kX3_work l G (cyI := cyI) (cyZ := cyZ) (x := x) (ad := ad) h22) (cwV 1 hts gX3_change_X3_work rfl rfl rfl (by decide +kernel) ⟨Nat.le_of_ble_eq_true rfl, Nat.le_of_ble_eq_true rfl⟩) (va_recv hK h.1 (ci := 3) (q0 := 0) rfl rfl) rfl hl.1 rfl (Nat.le_of_ble_eq_true rfl) dX3_change_88 ⟨Nat.zero_le _, Nat.zero_le _⟩ (fun H locs h => ?_)
    refine lv_istore (lv' := [(6, .int r19), (5, .int ((r4 + 1) + p2)), (0, .ref x), (1, .int p1), (2, .int p2), (3, .int p3), (4, .int p4)]) hx hb dX3_change_91 hl (by decide) rfl (fun ls hl => ?_)
    refine lv_aload_n hx hb dX3_change_93 rfl (lv_at hl 2 rfl) ?_
    obtain ⟨f23, g24, h25, hs⟩ := bWv_some hs
    refine rh_Vv X h (kX3_close l G (cyI := cyI) (cyZ := cyZ) (x := x) (ad := ad) h25) (cwV 0 hts gX3_change_X3_close rfl rfl rfl (by decide +kernel) ⟨Nat.le_of_ble_eq_true rfl, Nat.le_of_ble_eq_true rfl⟩) (va_recv hK h.1 (ci := 3) (q0 := 0) rfl rfl) rfl hl.1 rfl (Nat.le_of_ble_eq_true rfl) dX3_change_94 ⟨Nat.zero_le _, Nat.zero_le _⟩ (fun H locs h => ?_)
    cases hs
    exact ret _ _ _ _ dX3_change_97 h
  · have hs := ite_p c8 hs
    cases hs
    exact ret _ _ _ _ dX3_change_43 h
theorem kX3_change (l : Launch) (G : va_G) {cyI cyZ : ClassId} {x : Nat} {ad : Nat → Nat} {f : Nat → Int32} {g : Nat → Nat → Int32} {p1 : Int32} {p2 : Int32} {p3 : Int32} {p4 : Int32} {f' : Nat → Int32} {g' : Nat → Nat → Int32} (hs : sX3_change f g p1 p2 p3 p4 = some (f', g')) : rh_Mv l yX3_change wsX3_change rmX3_change G [(cyI, .int), (cyZ, .boolean)] [] (mw cyI cyZ x ad f g) [.ref x, .int p1, .int p2, .int p3, .int p4] (mw cyI cyZ x ad f' g') :=
  rh_ofv (by decide +kernel) rfl (Nat.le_of_ble_eq_true rfl) (fun p e s m below meth c A Q X ret ls hl h => bX3_change X ret _ _ ls f g p1 p2 p3 p4 h hl hs)
abbrev rmX3_put : Room := { frames := 7, cells := 0, slots := 0, locals := 162 }
set_option maxRecDepth 100000 in
theorem iX3_put_X3 : ∀ w ∈ u_ws RX3 TX3 22, w ∈ wsX3_put := by decide +kernel
def sX3_put_65 (f : Nat → Int32) (g : Nat → Nat → Int32) (v3 : Int32) (t1 : Int32) (t2 : Int32) (t3 : Int32) : Option ((Nat → Int32) × (Nat → Nat → Int32)) := rd (g 5) 16 v3 (fun v9 => bWv (sX3_change f g t1 t2 t3 v9) (fun f12 g13 => some ((f12, g13))))
set_option maxHeartbeats 4000000 in
set_option maxRecDepth 100000 in
theorem bX3_put_65 {p : Program} {l : Launch} {e : Env} {s : State} {m : MethodId} {args : Array Value} {below : List Frame} {meth : Method} {c : Code} {Q : State → Prop} {A : Nat → Prop} {G : va_G} {cyI cyZ : ClassId} {x : Nat} {ad : Nat → Nat} (X : rh_X p s m args c cX3_put 4 RX3 wsX3_put G [(cyI, .int), (cyZ, .boolean)] [] A) {f' : Nat → Int32} {g' : Nat → Nat → Int32} (ret : ∀ (H : Heap) (locs : List Loc) (ls : Array Slot) (pc : Nat), decode cX3_put pc = .ok (.return_, 1) → rh_W G A s H locs (mw cyI cyZ x ad f' g') → W p l e rmX3_put s m args below meth c H locs 0 0 Q (F0 m pc ls [])) : ∀ (H : Heap) (locs : List Loc) (ls : Array Slot) (f : Nat → Int32) (g : Nat → Nat → Int32) (v3 : Int32) (t1 : Int32) (t2 : Int32) (t3 : Int32), rh_W G A s H locs (mw cyI cyZ x ad f g) → lv_has ls 4 [(0, .ref x), (3, .int v3)] → sX3_put_65 f g v3 t1 t2 t3 = some (f', g') → W p l e rmX3_put s m args below meth c H locs 0 0 Q (F0 m 65 ls [.int t3, .int t2, .int t1, .ref x]) := by
  have hx := X.1
  have hb := X.2.1
  have hown := X.2.2.2.1
  have hts := X.2.2.2.2.1
  have hK := X.2.2.2.2.2.1
  have hNN := X.2.2.2.2.2.2.1.2
  intro H locs ls f g v3 t1 t2 t3 h hl hs
  unfold sX3_put_65 at hs
  refine lv_aload_n hx hb dX3_put_65 rfl (lv_at hl 0 rfl) ?_
  refine rh_get X h (v := .ref (ad 6)) iX3_put_X3 0 9 rfl rfl (by decide) (by decide +kernel) rfl dX3_put_66 ?_
  refine lv_iload_n hx hb dX3_put_69 rfl (lv_at hl 1 rfl) ?_
  obtain ⟨i11, v9, e10, hs⟩ := rd_some hs
  refine rh_iald X h 6 0 rfl rfl i11 e10 dX3_put_70 ?_
  obtain ⟨f12, g13, h14, hs⟩ := bWv_some hs
  refine rh_Vv X h (kX3_change l G (cyI := cyI) (cyZ := cyZ) (x := x) (ad := ad) h14) (cwV 4 hts gX3_put_X3_change rfl rfl rfl (by decide +kernel) ⟨Nat.le_of_ble_eq_true rfl, Nat.le_of_ble_eq_true rfl⟩) (va_recv hK h.1 (ci := 3) (q0 := 0) rfl rfl) rfl hl.1 rfl (Nat.le_of_ble_eq_true rfl) dX3_put_71 ⟨Nat.zero_le _, Nat.zero_le _⟩ (fun H locs h => ?_)
  cases hs
  exact ret _ _ _ _ dX3_put_74 h
def sX3_put_33 (f : Nat → Int32) (g : Nat → Nat → Int32) (v1 : Int32) (v2 : Int32) (v3 : Int32) (t1 : Int32) : Option ((Nat → Int32) × (Nat → Nat → Int32)) := if t1 = 0 then (rd (g 4) 16 v3 (fun v5 => if v5 = 0 then (sX3_put_65 (upd f 0 t1) g v3 v1 v2 0) else (sX3_put_65 (upd f 0 t1) g v3 v1 v2 (1 + (f 3))))) else (some (((upd f 0 t1), g)))
set_option maxHeartbeats 4000000 in
set_option maxRecDepth 100000 in
theorem bX3_put_33 {p : Program} {l : Launch} {e : Env} {s : State} {m : MethodId} {args : Array Value} {below : List Frame} {meth : Method} {c : Code} {Q : State → Prop} {A : Nat → Prop} {G : va_G} {cyI cyZ : ClassId} {x : Nat} {ad : Nat → Nat} (X : rh_X p s m args c cX3_put 4 RX3 wsX3_put G [(cyI, .int), (cyZ, .boolean)] [] A) {f' : Nat → Int32} {g' : Nat → Nat → Int32} (ret : ∀ (H : Heap) (locs : List Loc) (ls : Array Slot) (pc : Nat), decode cX3_put pc = .ok (.return_, 1) → rh_W G A s H locs (mw cyI cyZ x ad f' g') → W p l e rmX3_put s m args below meth c H locs 0 0 Q (F0 m pc ls [])) : ∀ (H : Heap) (locs : List Loc) (ls : Array Slot) (f : Nat → Int32) (g : Nat → Nat → Int32) (v1 : Int32) (v2 : Int32) (v3 : Int32) (t1 : Int32), rh_W G A s H locs (mw cyI cyZ x ad f g) → lv_has ls 4 [(0, .ref x), (1, .int v1), (2, .int v2), (3, .int v3)] → sX3_put_33 f g v1 v2 v3 t1 = some (f', g') → W p l e rmX3_put s m args below meth c H locs 0 0 Q (F0 m 33 ls [.int t1, .ref x]) := by
  have hx := X.1
  have hb := X.2.1
  have hown := X.2.2.2.1
  have hts := X.2.2.2.2.1
  have hK := X.2.2.2.2.2.1
  have hNN := X.2.2.2.2.2.2.1.2
  intro H locs ls f g v1 v2 v3 t1 h hl hs
  unfold sX3_put_33 at hs
  refine rh_put X h iX3_put_X3 tyX3 tyX3_ok nmX3 0 0 rfl rfl (by decide) (by decide +kernel) rfl rfl rfl (Nat.le_of_ble_eq_true rfl) dX3_put_33 (fun H locs h => ?_)
  have h : rh_W G A s H locs (mw cyI cyZ x ad (upd f 0 t1) g) := mp_0 h
  refine lv_aload_n hx hb dX3_put_36 rfl (lv_at hl 0 rfl) ?_
  refine rh_get X h (v := .int t1) iX3_put_X3 0 0 rfl rfl (by decide) (by decide +kernel) rfl dX3_put_37 ?_
  refine lv_if_ne (tgt := 74) hx hb dX3_put_40 (by decide) (fun c4 => ?_) (fun c4 => ?_)
  · have hs := ite_n c4 hs
    cases hs
    exact ret _ _ _ _ dX3_put_74 h
  · have hs := ite_p c4 hs
    refine lv_aload_n hx hb dX3_put_43 rfl (lv_at hl 0 rfl) ?_
    refine lv_iload_n hx hb dX3_put_44 rfl (lv_at hl 1 rfl) ?_
    refine lv_iload_n hx hb dX3_put_45 rfl (lv_at hl 2 rfl) ?_
    refine lv_aload_n hx hb dX3_put_46 rfl (lv_at hl 0 rfl) ?_
    refine rh_get X h (v := .ref (ad 5)) iX3_put_X3 0 8 rfl rfl (by decide) (by decide +kernel) rfl dX3_put_47 ?_
    refine lv_iload_n hx hb dX3_put_50 rfl (lv_at hl 3 rfl) ?_
    obtain ⟨i7, v5, e6, hs⟩ := rd_some hs
    refine rh_zald X h 5 1 rfl rfl i7 e6 dX3_put_51 ?_
    refine lv_if_eq (tgt := 64) hx hb dX3_put_52 (by decide) (fun c8 => ?_) (fun c8 => ?_)
    · have hs := ite_p c8 hs
      refine lv_iconst (v := 0) hx hb dX3_put_64 (by decide) ?_
      exact bX3_put_65 X ret  _ _ _ (upd f 0 t1) g v3 v1 v2 0 h (lv_sub hl [0, 3] rfl) hs
    · have hs := ite_n c8 hs
      refine lv_iconst (v := 1) hx hb dX3_put_55 (by decide) ?_
      refine lv_aload_n hx hb dX3_put_56 rfl (lv_at hl 0 rfl) ?_
      refine rh_get X h (v := .int (f 3)) iX3_put_X3 0 7 rfl rfl (by decide) (by decide +kernel) rfl dX3_put_57 ?_
      refine lv_iadd hx hb dX3_put_60 ?_
      refine lv_goto (tgt := 65) hx hb dX3_put_61 (by decide) ?_
      exact bX3_put_65 X ret  _ _ _ (upd f 0 t1) g v3 v1 v2 (1 + (f 3)) h (lv_sub hl [0, 3] rfl) hs
def sX3_put_15 (f : Nat → Int32) (g : Nat → Nat → Int32) (v1 : Int32) (v2 : Int32) (v3 : Int32) : Option ((Nat → Int32) × (Nat → Nat → Int32)) := sX3_put_33 f g v1 v2 v3 1
set_option maxHeartbeats 4000000 in
set_option maxRecDepth 100000 in
theorem bX3_put_15 {p : Program} {l : Launch} {e : Env} {s : State} {m : MethodId} {args : Array Value} {below : List Frame} {meth : Method} {c : Code} {Q : State → Prop} {A : Nat → Prop} {G : va_G} {cyI cyZ : ClassId} {x : Nat} {ad : Nat → Nat} (X : rh_X p s m args c cX3_put 4 RX3 wsX3_put G [(cyI, .int), (cyZ, .boolean)] [] A) {f' : Nat → Int32} {g' : Nat → Nat → Int32} (ret : ∀ (H : Heap) (locs : List Loc) (ls : Array Slot) (pc : Nat), decode cX3_put pc = .ok (.return_, 1) → rh_W G A s H locs (mw cyI cyZ x ad f' g') → W p l e rmX3_put s m args below meth c H locs 0 0 Q (F0 m pc ls [])) : ∀ (H : Heap) (locs : List Loc) (ls : Array Slot) (f : Nat → Int32) (g : Nat → Nat → Int32) (v1 : Int32) (v2 : Int32) (v3 : Int32), rh_W G A s H locs (mw cyI cyZ x ad f g) → lv_has ls 4 [(0, .ref x), (1, .int v1), (2, .int v2), (3, .int v3)] → sX3_put_15 f g v1 v2 v3 = some (f', g') → W p l e rmX3_put s m args below meth c H locs 0 0 Q (F0 m 15 ls [.ref x]) := by
  have hx := X.1
  have hb := X.2.1
  have hown := X.2.2.2.1
  have hts := X.2.2.2.2.1
  have hK := X.2.2.2.2.2.1
  have hNN := X.2.2.2.2.2.2.1.2
  intro H locs ls f g v1 v2 v3 h hl hs
  unfold sX3_put_15 at hs
  refine lv_iconst (v := 1) hx hb dX3_put_15 (by decide) ?_
  refine lv_goto (tgt := 33) hx hb dX3_put_16 (by decide) ?_
  exact bX3_put_33 X ret  _ _ _ f g v1 v2 v3 1 h (lv_sub hl [0, 1, 2, 3] rfl) hs
def sX3_put (f : Nat → Int32) (g : Nat → Nat → Int32) (p1 : Int32) (p2 : Int32) (p3 : Int32) : Option ((Nat → Int32) × (Nat → Nat → Int32)) := bR (sX3_isRoot  p1) (fun r1 => if r1 = 0 then (sX3_put_15 f g p1 p2 p3) else (bR (sX3_isRoot  p3) (fun r15 => if r15 = 0 then (sX3_put_15 f g p1 p2 p3) else (bR (sX3_hasField f g p1 p2) (fun r18 => if r18 = 0 then (sX3_put_33 f g p1 p2 p3 2) else (sX3_put_33 f g p1 p2 p3 0))))))
set_option maxHeartbeats 4000000 in
set_option maxRecDepth 100000 in
theorem bX3_put {p : Program} {l : Launch} {e : Env} {s : State} {m : MethodId} {args : Array Value} {below : List Frame} {meth : Method} {c : Code} {Q : State → Prop} {A : Nat → Prop} {G : va_G} {cyI cyZ : ClassId} {x : Nat} {ad : Nat → Nat} (X : rh_X p s m args c cX3_put 4 RX3 wsX3_put G [(cyI, .int), (cyZ, .boolean)] [] A) {f' : Nat → Int32} {g' : Nat → Nat → Int32} (ret : ∀ (H : Heap) (locs : List Loc) (ls : Array Slot) (pc : Nat), decode cX3_put pc = .ok (.return_, 1) → rh_W G A s H locs (mw cyI cyZ x ad f' g') → W p l e rmX3_put s m args below meth c H locs 0 0 Q (F0 m pc ls [])) : ∀ (H : Heap) (locs : List Loc) (ls : Array Slot) (f : Nat → Int32) (g : Nat → Nat → Int32) (p1 : Int32) (p2 : Int32) (p3 : Int32), rh_W G A s H locs (mw cyI cyZ x ad f g) → lv_has ls 4 [(0, .ref x), (1, .int p1), (2, .int p2), (3, .int p3)] → sX3_put f g p1 p2 p3 = some (f', g') → W p l e rmX3_put s m args below meth c H locs 0 0 Q (F0 m 0 ls []) := by
  have hx := X.1
  have hb := X.2.1
  have hown := X.2.2.2.1
  have hts := X.2.2.2.2.1
  have hK := X.2.2.2.2.2.1
  have hNN := X.2.2.2.2.2.2.1.2
  intro H locs ls f g p1 p2 p3 h hl hs
  unfold sX3_put at hs
  refine lv_aload_n hx hb dX3_put_0 rfl (lv_at hl 0 rfl) ?_
  refine lv_iload_n hx hb dX3_put_1 rfl (lv_at hl 1 rfl) ?_
  obtain ⟨r1, h2, hs⟩ := bR_some hs
  refine rh_Si X h (kX3_isRoot l G h2) (va_cwS 1 hts gX3_put_X3_isRoot rfl rfl rfl (by decide +kernel) ⟨Nat.le_of_ble_eq_true rfl, Nat.le_of_ble_eq_true rfl⟩) rfl hl.1 rfl (Nat.le_of_ble_eq_true rfl) dX3_put_2 ⟨Nat.zero_le _, Nat.zero_le _⟩ (fun H locs h => ?_)
  refine lv_if_eq (tgt := 15) hx hb dX3_put_5 (by decide) (fun c3 => ?_) (fun c3 => ?_)
  · have hs := ite_p c3 hs
    exact bX3_put_15 X ret  _ _ _ f g p1 p2 p3 h (lv_sub hl [0, 1, 2, 3] rfl) hs
  · have hs := ite_n c3 hs
    refine lv_iload_n hx hb dX3_put_8 rfl (lv_at hl 3 rfl) ?_
    obtain ⟨r15, h16, hs⟩ := bR_some hs
    refine rh_Si X h (kX3_isRoot l G h16) (va_cwS 1 hts gX3_put_X3_isRoot rfl rfl rfl (by decide +kernel) ⟨Nat.le_of_ble_eq_true rfl, Nat.le_of_ble_eq_true rfl⟩) rfl hl.1 rfl (Nat.le_of_ble_eq_true rfl) dX3_put_9 ⟨Nat.zero_le _, Nat.zero_le _⟩ (fun H locs h => ?_)
    refine lv_if_ne (tgt := 19) hx hb dX3_put_12 (by decide) (fun c17 => ?_) (fun c17 => ?_)
    · have hs := ite_n c17 hs
      refine lv_aload_n hx hb dX3_put_19 rfl (lv_at hl 0 rfl) ?_
      refine lv_iload_n hx hb dX3_put_20 rfl (lv_at hl 1 rfl) ?_
      refine lv_iload_n hx hb dX3_put_21 rfl (lv_at hl 2 rfl) ?_
      obtain ⟨r18, h19, hs⟩ := bR_some hs
      refine rh_Vi X h (kX3_hasField l G (cyI := cyI) (cyZ := cyZ) (x := x) (ad := ad) h19) (cwV 2 hts gX3_put_X3_hasField rfl rfl rfl (by decide +kernel) ⟨Nat.le_of_ble_eq_true rfl, Nat.le_of_ble_eq_true rfl⟩) (va_recv hK h.1 (ci := 3) (q0 := 0) rfl rfl) rfl hl.1 rfl (Nat.le_of_ble_eq_true rfl) dX3_put_22 ⟨Nat.zero_le _, Nat.zero_le _⟩ (fun H locs h => ?_)
      refine lv_if_ne (tgt := 32) hx hb dX3_put_25 (by decide) (fun c20 => ?_) (fun c20 => ?_)
      · have hs := ite_n c20 hs
        refine lv_iconst (v := 0) hx hb dX3_put_32 (by decide) ?_
        exact bX3_put_33 X ret  _ _ _ f g p1 p2 p3 0 h (lv_sub hl [0, 1, 2, 3] rfl) hs
      · have hs := ite_p c20 hs
        refine lv_iconst (v := 2) hx hb dX3_put_28 (by decide) ?_
        refine lv_goto (tgt := 33) hx hb dX3_put_29 (by decide) ?_
        exact bX3_put_33 X ret  _ _ _ f g p1 p2 p3 2 h (lv_sub hl [0, 1, 2, 3] rfl) hs
    · have hs := ite_p c17 hs
      exact bX3_put_15 X ret  _ _ _ f g p1 p2 p3 h (lv_sub hl [0, 1, 2, 3] rfl) hs
theorem kX3_put (l : Launch) (G : va_G) {cyI cyZ : ClassId} {x : Nat} {ad : Nat → Nat} {f : Nat → Int32} {g : Nat → Nat → Int32} {p1 : Int32} {p2 : Int32} {p3 : Int32} {f' : Nat → Int32} {g' : Nat → Nat → Int32} (hs : sX3_put f g p1 p2 p3 = some (f', g')) : rh_Mv l yX3_put wsX3_put rmX3_put G [(cyI, .int), (cyZ, .boolean)] [] (mw cyI cyZ x ad f g) [.ref x, .int p1, .int p2, .int p3] (mw cyI cyZ x ad f' g') :=
  rh_ofv (by decide +kernel) rfl (Nat.le_of_ble_eq_true rfl) (fun p e s m below meth c A Q X ret ls hl h => bX3_put X ret _ _ ls f g p1 p2 p3 h hl hs)
abbrev rmX3_putNumber : Room := { frames := 7, cells := 0, slots := 0, locals := 162 }
set_option maxRecDepth 100000 in
theorem iX3_putNumber_X3 : ∀ w ∈ u_ws RX3 TX3 22, w ∈ wsX3_putNumber := by decide +kernel
def sX3_putNumber_26 (f : Nat → Int32) (g : Nat → Nat → Int32) (v1 : Int32) (v2 : Int32) (v3 : Int32) (t1 : Int32) : Option ((Nat → Int32) × (Nat → Nat → Int32)) := if t1 = 0 then (bWv (sX3_change (upd f 0 t1) g v1 v2 0 v3) (fun f8 g9 => some ((f8, g9)))) else (some (((upd f 0 t1), g)))
set_option maxHeartbeats 4000000 in
set_option maxRecDepth 100000 in
theorem bX3_putNumber_26 {p : Program} {l : Launch} {e : Env} {s : State} {m : MethodId} {args : Array Value} {below : List Frame} {meth : Method} {c : Code} {Q : State → Prop} {A : Nat → Prop} {G : va_G} {cyI cyZ : ClassId} {x : Nat} {ad : Nat → Nat} (X : rh_X p s m args c cX3_putNumber 4 RX3 wsX3_putNumber G [(cyI, .int), (cyZ, .boolean)] [] A) {f' : Nat → Int32} {g' : Nat → Nat → Int32} (ret : ∀ (H : Heap) (locs : List Loc) (ls : Array Slot) (pc : Nat), decode cX3_putNumber pc = .ok (.return_, 1) → rh_W G A s H locs (mw cyI cyZ x ad f' g') → W p l e rmX3_putNumber s m args below meth c H locs 0 0 Q (F0 m pc ls [])) : ∀ (H : Heap) (locs : List Loc) (ls : Array Slot) (f : Nat → Int32) (g : Nat → Nat → Int32) (v1 : Int32) (v2 : Int32) (v3 : Int32) (t1 : Int32), rh_W G A s H locs (mw cyI cyZ x ad f g) → lv_has ls 4 [(0, .ref x), (1, .int v1), (2, .int v2), (3, .int v3)] → sX3_putNumber_26 f g v1 v2 v3 t1 = some (f', g') → W p l e rmX3_putNumber s m args below meth c H locs 0 0 Q (F0 m 26 ls [.int t1, .ref x]) := by
  have hx := X.1
  have hb := X.2.1
  have hown := X.2.2.2.1
  have hts := X.2.2.2.2.1
  have hK := X.2.2.2.2.2.1
  have hNN := X.2.2.2.2.2.2.1.2
  intro H locs ls f g v1 v2 v3 t1 h hl hs
  unfold sX3_putNumber_26 at hs
  refine rh_put X h iX3_putNumber_X3 tyX3 tyX3_ok nmX3 0 0 rfl rfl (by decide) (by decide +kernel) rfl rfl rfl (Nat.le_of_ble_eq_true rfl) dX3_putNumber_26 (fun H locs h => ?_)
  have h : rh_W G A s H locs (mw cyI cyZ x ad (upd f 0 t1) g) := mp_0 h
  refine lv_aload_n hx hb dX3_putNumber_29 rfl (lv_at hl 0 rfl) ?_
  refine rh_get X h (v := .int t1) iX3_putNumber_X3 0 0 rfl rfl (by decide) (by decide +kernel) rfl dX3_putNumber_30 ?_
  refine lv_if_ne (tgt := 44) hx hb dX3_putNumber_33 (by decide) (fun c7 => ?_) (fun c7 => ?_)
  · have hs := ite_n c7 hs
    cases hs
    exact ret _ _ _ _ dX3_putNumber_44 h
  · have hs := ite_p c7 hs
    refine lv_aload_n hx hb dX3_putNumber_36 rfl (lv_at hl 0 rfl) ?_
    refine lv_iload_n hx hb dX3_putNumber_37 rfl (lv_at hl 1 rfl) ?_
    refine lv_iload_n hx hb dX3_putNumber_38 rfl (lv_at hl 2 rfl) ?_
    refine lv_iconst (v := 0) hx hb dX3_putNumber_39 (by decide) ?_
    refine lv_iload_n hx hb dX3_putNumber_40 rfl (lv_at hl 3 rfl) ?_
    obtain ⟨f8, g9, h10, hs⟩ := bWv_some hs
    refine rh_Vv X h (kX3_change l G (cyI := cyI) (cyZ := cyZ) (x := x) (ad := ad) h10) (cwV 4 hts gX3_putNumber_X3_change rfl rfl rfl (by decide +kernel) ⟨Nat.le_of_ble_eq_true rfl, Nat.le_of_ble_eq_true rfl⟩) (va_recv hK h.1 (ci := 3) (q0 := 0) rfl rfl) rfl hl.1 rfl (Nat.le_of_ble_eq_true rfl) dX3_putNumber_41 ⟨Nat.zero_le _, Nat.zero_le _⟩ (fun H locs h => ?_)
    cases hs
    exact ret _ _ _ _ dX3_putNumber_44 h
def sX3_putNumber (f : Nat → Int32) (g : Nat → Nat → Int32) (p1 : Int32) (p2 : Int32) (p3 : Int32) : Option ((Nat → Int32) × (Nat → Nat → Int32)) := bR (sX3_isRoot  p1) (fun r1 => if r1 = 0 then (sX3_putNumber_26 f g p1 p2 p3 1) else (bR (sX3_hasField f g p1 p2) (fun r4 => if r4 = 0 then (sX3_putNumber_26 f g p1 p2 p3 2) else (sX3_putNumber_26 f g p1 p2 p3 0))))
set_option maxHeartbeats 4000000 in
set_option maxRecDepth 100000 in
theorem bX3_putNumber {p : Program} {l : Launch} {e : Env} {s : State} {m : MethodId} {args : Array Value} {below : List Frame} {meth : Method} {c : Code} {Q : State → Prop} {A : Nat → Prop} {G : va_G} {cyI cyZ : ClassId} {x : Nat} {ad : Nat → Nat} (X : rh_X p s m args c cX3_putNumber 4 RX3 wsX3_putNumber G [(cyI, .int), (cyZ, .boolean)] [] A) {f' : Nat → Int32} {g' : Nat → Nat → Int32} (ret : ∀ (H : Heap) (locs : List Loc) (ls : Array Slot) (pc : Nat), decode cX3_putNumber pc = .ok (.return_, 1) → rh_W G A s H locs (mw cyI cyZ x ad f' g') → W p l e rmX3_putNumber s m args below meth c H locs 0 0 Q (F0 m pc ls [])) : ∀ (H : Heap) (locs : List Loc) (ls : Array Slot) (f : Nat → Int32) (g : Nat → Nat → Int32) (p1 : Int32) (p2 : Int32) (p3 : Int32), rh_W G A s H locs (mw cyI cyZ x ad f g) → lv_has ls 4 [(0, .ref x), (1, .int p1), (2, .int p2), (3, .int p3)] → sX3_putNumber f g p1 p2 p3 = some (f', g') → W p l e rmX3_putNumber s m args below meth c H locs 0 0 Q (F0 m 0 ls []) := by
  have hx := X.1
  have hb := X.2.1
  have hown := X.2.2.2.1
  have hts := X.2.2.2.2.1
  have hK := X.2.2.2.2.2.1
  have hNN := X.2.2.2.2.2.2.1.2
  intro H locs ls f g p1 p2 p3 h hl hs
  unfold sX3_putNumber at hs
  refine lv_aload_n hx hb dX3_putNumber_0 rfl (lv_at hl 0 rfl) ?_
  refine lv_iload_n hx hb dX3_putNumber_1 rfl (lv_at hl 1 rfl) ?_
  obtain ⟨r1, h2, hs⟩ := bR_some hs
  refine rh_Si X h (kX3_isRoot l G h2) (va_cwS 1 hts gX3_putNumber_X3_isRoot rfl rfl rfl (by decide +kernel) ⟨Nat.le_of_ble_eq_true rfl, Nat.le_of_ble_eq_true rfl⟩) rfl hl.1 rfl (Nat.le_of_ble_eq_true rfl) dX3_putNumber_2 ⟨Nat.zero_le _, Nat.zero_le _⟩ (fun H locs h => ?_)
  refine lv_if_ne (tgt := 12) hx hb dX3_putNumber_5 (by decide) (fun c3 => ?_) (fun c3 => ?_)
  · have hs := ite_n c3 hs
    refine lv_aload_n hx hb dX3_putNumber_12 rfl (lv_at hl 0 rfl) ?_
    refine lv_iload_n hx hb dX3_putNumber_13 rfl (lv_at hl 1 rfl) ?_
    refine lv_iload_n hx hb dX3_putNumber_14 rfl (lv_at hl 2 rfl) ?_
    obtain ⟨r4, h5, hs⟩ := bR_some hs
    refine rh_Vi X h (kX3_hasField l G (cyI := cyI) (cyZ := cyZ) (x := x) (ad := ad) h5) (cwV 2 hts gX3_putNumber_X3_hasField rfl rfl rfl (by decide +kernel) ⟨Nat.le_of_ble_eq_true rfl, Nat.le_of_ble_eq_true rfl⟩) (va_recv hK h.1 (ci := 3) (q0 := 0) rfl rfl) rfl hl.1 rfl (Nat.le_of_ble_eq_true rfl) dX3_putNumber_15 ⟨Nat.zero_le _, Nat.zero_le _⟩ (fun H locs h => ?_)
    refine lv_if_ne (tgt := 25) hx hb dX3_putNumber_18 (by decide) (fun c6 => ?_) (fun c6 => ?_)
    · have hs := ite_n c6 hs
      refine lv_iconst (v := 0) hx hb dX3_putNumber_25 (by decide) ?_
      exact bX3_putNumber_26 X ret  _ _ _ f g p1 p2 p3 0 h (lv_sub hl [0, 1, 2, 3] rfl) hs
    · have hs := ite_p c6 hs
      refine lv_iconst (v := 2) hx hb dX3_putNumber_21 (by decide) ?_
      refine lv_goto (tgt := 26) hx hb dX3_putNumber_22 (by decide) ?_
      exact bX3_putNumber_26 X ret  _ _ _ f g p1 p2 p3 2 h (lv_sub hl [0, 1, 2, 3] rfl) hs
  · have hs := ite_p c3 hs
    refine lv_iconst (v := 1) hx hb dX3_putNumber_8 (by decide) ?_
    refine lv_goto (tgt := 26) hx hb dX3_putNumber_9 (by decide) ?_
    exact bX3_putNumber_26 X ret  _ _ _ f g p1 p2 p3 1 h (lv_sub hl [0, 1, 2, 3] rfl) hs
theorem kX3_putNumber (l : Launch) (G : va_G) {cyI cyZ : ClassId} {x : Nat} {ad : Nat → Nat} {f : Nat → Int32} {g : Nat → Nat → Int32} {p1 : Int32} {p2 : Int32} {p3 : Int32} {f' : Nat → Int32} {g' : Nat → Nat → Int32} (hs : sX3_putNumber f g p1 p2 p3 = some (f', g')) : rh_Mv l yX3_putNumber wsX3_putNumber rmX3_putNumber G [(cyI, .int), (cyZ, .boolean)] [] (mw cyI cyZ x ad f g) [.ref x, .int p1, .int p2, .int p3] (mw cyI cyZ x ad f' g') :=
  rh_ofv (by decide +kernel) rfl (Nat.le_of_ble_eq_true rfl) (fun p e s m below meth c A Q X ret ls hl h => bX3_putNumber X ret _ _ ls f g p1 p2 p3 h hl hs)
abbrev rmX3_get : Room := { frames := 2, cells := 0, slots := 0, locals := 43 }
set_option maxRecDepth 100000 in
theorem iX3_get_X3 : ∀ w ∈ u_ws RX3 TX3 22, w ∈ wsX3_get := by decide +kernel
def sX3_get_83 (f : Nat → Int32) (g : Nat → Nat → Int32) (v1 : Int32) (v4 : Int32) (t1 : Int32) (t2 : Int32) : Option ((Nat → Int32) × (Nat → Nat → Int32)) := wt 16 t1 (rd (g 1) 800 v4 (fun v15 => wt 16 v1 (some ((f, (ur (ur g 4 (upd (g 4) t1.toNatClampNeg (vp_nar .boolean t2))) 5 (upd (g 5) v1.toNatClampNeg v15)))))))
set_option maxHeartbeats 4000000 in
set_option maxRecDepth 100000 in
theorem bX3_get_83 {p : Program} {l : Launch} {e : Env} {s : State} {m : MethodId} {args : Array Value} {below : List Frame} {meth : Method} {c : Code} {Q : State → Prop} {A : Nat → Prop} {G : va_G} {cyI cyZ : ClassId} {x : Nat} {ad : Nat → Nat} (X : rh_X p s m args c cX3_get 5 RX3 wsX3_get G [(cyI, .int), (cyZ, .boolean)] [] A) {f' : Nat → Int32} {g' : Nat → Nat → Int32} (ret : ∀ (H : Heap) (locs : List Loc) (ls : Array Slot) (pc : Nat), decode cX3_get pc = .ok (.return_, 1) → rh_W G A s H locs (mw cyI cyZ x ad f' g') → W p l e rmX3_get s m args below meth c H locs 0 0 Q (F0 m pc ls [])) : ∀ (H : Heap) (locs : List Loc) (ls : Array Slot) (f : Nat → Int32) (g : Nat → Nat → Int32) (v1 : Int32) (v4 : Int32) (t1 : Int32) (t2 : Int32), rh_W G A s H locs (mw cyI cyZ x ad f g) → lv_has ls 5 [(0, .ref x), (1, .int v1), (4, .int v4)] → sX3_get_83 f g v1 v4 t1 t2 = some (f', g') → W p l e rmX3_get s m args below meth c H locs 0 0 Q (F0 m 83 ls [.int t2, .int t1, .ref (ad 5)]) := by
  have hx := X.1
  have hb := X.2.1
  have hown := X.2.2.2.1
  have hts := X.2.2.2.2.1
  have hK := X.2.2.2.2.2.1
  have hNN := X.2.2.2.2.2.2.1.2
  intro H locs ls f g v1 v4 t1 t2 h hl hs
  unfold sX3_get_83 at hs
  obtain ⟨i14, hs⟩ := wt_some hs
  refine rh_zast X h 5 1 rfl rfl i14 dX3_get_83 (fun H locs h => ?_)
  have h : rh_W G A s H locs (mw cyI cyZ x ad f (ur g 4 (upd (g 4) t1.toNatClampNeg (vp_nar .boolean t2)))) := mr_4 h
  refine lv_aload_n hx hb dX3_get_84 rfl (lv_at hl 0 rfl) ?_
  refine rh_get X h (v := .ref (ad 6)) iX3_get_X3 0 9 rfl rfl (by decide) (by decide +kernel) rfl dX3_get_85 ?_
  refine lv_iload_n hx hb dX3_get_88 rfl (lv_at hl 1 rfl) ?_
  refine lv_aload_n hx hb dX3_get_89 rfl (lv_at hl 0 rfl) ?_
  refine rh_get X h (v := .ref (ad 2)) iX3_get_X3 0 4 rfl rfl (by decide) (by decide +kernel) rfl dX3_get_90 ?_
  refine lv_iload hx hb dX3_get_93 (lv_at hl 2 rfl) ?_
  obtain ⟨i17, v15, e16, hs⟩ := rd_some hs
  refine rh_iald X h 2 0 rfl rfl i17 e16 dX3_get_95 ?_
  obtain ⟨i18, hs⟩ := wt_some hs
  refine rh_iast X h 6 0 rfl rfl i18 dX3_get_96 (fun H locs h => ?_)
  have h : rh_W G A s H locs (mw cyI cyZ x ad f (ur (ur g 4 (upd (g 4) t1.toNatClampNeg (vp_nar .boolean t2))) 5 (upd (g 5) v1.toNatClampNeg v15))) := mr_5 h
  cases hs
  exact ret _ _ _ _ dX3_get_97 h
def sX3_get_33 (f : Nat → Int32) (g : Nat → Nat → Int32) (v1 : Int32) (v2 : Int32) (v3 : Int32) (t1 : Int32) : Option ((Nat → Int32) × (Nat → Nat → Int32)) := if t1 ≤ 0 then (rd (g 5) 16 v2 (fun v5 => bR (sX3_at  (f 3) v5) (fun r8 => rd (g 0) 800 ((r8 + 1) + v3) (fun v10 => if v10 = 0 then (sX3_get_83 (upd f 0 t1) g v1 ((r8 + 1) + v3) v1 0) else (sX3_get_83 (upd f 0 t1) g v1 ((r8 + 1) + v3) v1 1))))) else (some (((upd f 0 t1), g)))
set_option maxHeartbeats 4000000 in
set_option maxRecDepth 100000 in
theorem bX3_get_33 {p : Program} {l : Launch} {e : Env} {s : State} {m : MethodId} {args : Array Value} {below : List Frame} {meth : Method} {c : Code} {Q : State → Prop} {A : Nat → Prop} {G : va_G} {cyI cyZ : ClassId} {x : Nat} {ad : Nat → Nat} (X : rh_X p s m args c cX3_get 5 RX3 wsX3_get G [(cyI, .int), (cyZ, .boolean)] [] A) {f' : Nat → Int32} {g' : Nat → Nat → Int32} (ret : ∀ (H : Heap) (locs : List Loc) (ls : Array Slot) (pc : Nat), decode cX3_get pc = .ok (.return_, 1) → rh_W G A s H locs (mw cyI cyZ x ad f' g') → W p l e rmX3_get s m args below meth c H locs 0 0 Q (F0 m pc ls [])) : ∀ (H : Heap) (locs : List Loc) (ls : Array Slot) (f : Nat → Int32) (g : Nat → Nat → Int32) (v1 : Int32) (v2 : Int32) (v3 : Int32) (t1 : Int32), rh_W G A s H locs (mw cyI cyZ x ad f g) → lv_has ls 5 [(0, .ref x), (1, .int v1), (2, .int v2), (3, .int v3)] → sX3_get_33 f g v1 v2 v3 t1 = some (f', g') → W p l e rmX3_get s m args below meth c H locs 0 0 Q (F0 m 33 ls [.int t1, .ref x]) := by
  have hx := X.1
  have hb := X.2.1
  have hown := X.2.2.2.1
  have hts := X.2.2.2.2.1
  have hK := X.2.2.2.2.2.1
  have hNN := X.2.2.2.2.2.2.1.2
  intro H locs ls f g v1 v2 v3 t1 h hl hs
  unfold sX3_get_33 at hs
  refine rh_put X h iX3_get_X3 tyX3 tyX3_ok nmX3 0 0 rfl rfl (by decide) (by decide +kernel) rfl rfl rfl (Nat.le_of_ble_eq_true rfl) dX3_get_33 (fun H locs h => ?_)
  have h : rh_W G A s H locs (mw cyI cyZ x ad (upd f 0 t1) g) := mp_0 h
  refine lv_aload_n hx hb dX3_get_36 rfl (lv_at hl 0 rfl) ?_
  refine rh_get X h (v := .int t1) iX3_get_X3 0 0 rfl rfl (by decide) (by decide +kernel) rfl dX3_get_37 ?_
  refine lv_if_le (tgt := 44) hx hb dX3_get_40 (by decide) (fun c4 => ?_) (fun c4 => ?_)
  · have hs := ite_p c4 hs
    refine lv_aload_n hx hb dX3_get_44 rfl (lv_at hl 0 rfl) ?_
    refine rh_get X h (v := .int (f 3)) iX3_get_X3 0 7 rfl rfl (by decide) (by decide +kernel) rfl dX3_get_45 ?_
    refine lv_aload_n hx hb dX3_get_48 rfl (lv_at hl 0 rfl) ?_
    refine rh_get X h (v := .ref (ad 6)) iX3_get_X3 0 9 rfl rfl (by decide) (by decide +kernel) rfl dX3_get_49 ?_
    refine lv_iload_n hx hb dX3_get_52 rfl (lv_at hl 2 rfl) ?_
    obtain ⟨i7, v5, e6, hs⟩ := rd_some hs
    refine rh_iald X h 6 0 rfl rfl i7 e6 dX3_get_53 ?_
    obtain ⟨r8, h9, hs⟩ := bR_some hs
    refine rh_Si X h (kX3_at l G h9) (va_cwS 2 hts gX3_get_X3_at rfl rfl rfl (by decide +kernel) ⟨Nat.le_of_ble_eq_true rfl, Nat.le_of_ble_eq_true rfl⟩) rfl hl.1 rfl (Nat.le_of_ble_eq_true rfl) dX3_get_54 ⟨Nat.zero_le _, Nat.zero_le _⟩ (fun H locs h => ?_)
    refine lv_iconst (v := 1) hx hb dX3_get_57 (by decide) ?_
    refine lv_iadd hx hb dX3_get_58 ?_
    refine lv_iload_n hx hb dX3_get_59 rfl (lv_at hl 3 rfl) ?_
    refine lv_iadd hx hb dX3_get_60 ?_
    refine lv_istore (lv' := [(4, .int ((r8 + 1) + v3)), (0, .ref x), (1, .int v1), (2, .int v2), (3, .int v3)]) hx hb dX3_get_61 hl (by decide) rfl (fun ls hl => ?_)
    refine lv_aload_n hx hb dX3_get_63 rfl (lv_at hl 1 rfl) ?_
    refine rh_get X h (v := .ref (ad 5)) iX3_get_X3 0 8 rfl rfl (by decide) (by decide +kernel) rfl dX3_get_64 ?_
    refine lv_iload_n hx hb dX3_get_67 rfl (lv_at hl 2 rfl) ?_
    refine lv_aload_n hx hb dX3_get_68 rfl (lv_at hl 1 rfl) ?_
    refine rh_get X h (v := .ref (ad 1)) iX3_get_X3 0 3 rfl rfl (by decide) (by decide +kernel) rfl dX3_get_69 ?_
    refine lv_iload hx hb dX3_get_72 (lv_at hl 0 rfl) ?_
    obtain ⟨i12, v10, e11, hs⟩ := rd_some hs
    refine rh_iald X h 1 0 rfl rfl i12 e11 dX3_get_74 ?_
    refine lv_if_eq (tgt := 82) hx hb dX3_get_75 (by decide) (fun c13 => ?_) (fun c13 => ?_)
    · have hs := ite_p c13 hs
      refine lv_iconst (v := 0) hx hb dX3_get_82 (by decide) ?_
      exact bX3_get_83 X ret  _ _ _ (upd f 0 t1) g v1 ((r8 + 1) + v3) v1 0 h (lv_sub hl [1, 2, 0] rfl) hs
    · have hs := ite_n c13 hs
      refine lv_iconst (v := 1) hx hb dX3_get_78 (by decide) ?_
      refine lv_goto (tgt := 83) hx hb dX3_get_79 (by decide) ?_
      exact bX3_get_83 X ret  _ _ _ (upd f 0 t1) g v1 ((r8 + 1) + v3) v1 1 h (lv_sub hl [1, 2, 0] rfl) hs
  · have hs := ite_n c4 hs
    cases hs
    exact ret _ _ _ _ dX3_get_43 h
def sX3_get_15 (f : Nat → Int32) (g : Nat → Nat → Int32) (v1 : Int32) (v2 : Int32) (v3 : Int32) : Option ((Nat → Int32) × (Nat → Nat → Int32)) := sX3_get_33 f g v1 v2 v3 1
set_option maxHeartbeats 4000000 in
set_option maxRecDepth 100000 in
theorem bX3_get_15 {p : Program} {l : Launch} {e : Env} {s : State} {m : MethodId} {args : Array Value} {below : List Frame} {meth : Method} {c : Code} {Q : State → Prop} {A : Nat → Prop} {G : va_G} {cyI cyZ : ClassId} {x : Nat} {ad : Nat → Nat} (X : rh_X p s m args c cX3_get 5 RX3 wsX3_get G [(cyI, .int), (cyZ, .boolean)] [] A) {f' : Nat → Int32} {g' : Nat → Nat → Int32} (ret : ∀ (H : Heap) (locs : List Loc) (ls : Array Slot) (pc : Nat), decode cX3_get pc = .ok (.return_, 1) → rh_W G A s H locs (mw cyI cyZ x ad f' g') → W p l e rmX3_get s m args below meth c H locs 0 0 Q (F0 m pc ls [])) : ∀ (H : Heap) (locs : List Loc) (ls : Array Slot) (f : Nat → Int32) (g : Nat → Nat → Int32) (v1 : Int32) (v2 : Int32) (v3 : Int32), rh_W G A s H locs (mw cyI cyZ x ad f g) → lv_has ls 5 [(0, .ref x), (1, .int v1), (2, .int v2), (3, .int v3)] → sX3_get_15 f g v1 v2 v3 = some (f', g') → W p l e rmX3_get s m args below meth c H locs 0 0 Q (F0 m 15 ls [.ref x]) := by
  have hx := X.1
  have hb := X.2.1
  have hown := X.2.2.2.1
  have hts := X.2.2.2.2.1
  have hK := X.2.2.2.2.2.1
  have hNN := X.2.2.2.2.2.2.1.2
  intro H locs ls f g v1 v2 v3 h hl hs
  unfold sX3_get_15 at hs
  refine lv_iconst (v := 1) hx hb dX3_get_15 (by decide) ?_
  refine lv_goto (tgt := 33) hx hb dX3_get_16 (by decide) ?_
  exact bX3_get_33 X ret  _ _ _ f g v1 v2 v3 1 h (lv_sub hl [0, 1, 2, 3] rfl) hs
def sX3_get (f : Nat → Int32) (g : Nat → Nat → Int32) (p1 : Int32) (p2 : Int32) (p3 : Int32) : Option ((Nat → Int32) × (Nat → Nat → Int32)) := bR (sX3_isRoot  p1) (fun r1 => if r1 = 0 then (sX3_get_15 f g p1 p2 p3) else (bR (sX3_isRoot  p2) (fun r19 => if r19 = 0 then (sX3_get_15 f g p1 p2 p3) else (bR (sX3_hasField f g p2 p3) (fun r22 => if r22 = 0 then (sX3_get_33 f g p1 p2 p3 2) else (sX3_get_33 f g p1 p2 p3 0))))))
set_option maxHeartbeats 4000000 in
set_option maxRecDepth 100000 in
theorem bX3_get {p : Program} {l : Launch} {e : Env} {s : State} {m : MethodId} {args : Array Value} {below : List Frame} {meth : Method} {c : Code} {Q : State → Prop} {A : Nat → Prop} {G : va_G} {cyI cyZ : ClassId} {x : Nat} {ad : Nat → Nat} (X : rh_X p s m args c cX3_get 5 RX3 wsX3_get G [(cyI, .int), (cyZ, .boolean)] [] A) {f' : Nat → Int32} {g' : Nat → Nat → Int32} (ret : ∀ (H : Heap) (locs : List Loc) (ls : Array Slot) (pc : Nat), decode cX3_get pc = .ok (.return_, 1) → rh_W G A s H locs (mw cyI cyZ x ad f' g') → W p l e rmX3_get s m args below meth c H locs 0 0 Q (F0 m pc ls [])) : ∀ (H : Heap) (locs : List Loc) (ls : Array Slot) (f : Nat → Int32) (g : Nat → Nat → Int32) (p1 : Int32) (p2 : Int32) (p3 : Int32), rh_W G A s H locs (mw cyI cyZ x ad f g) → lv_has ls 5 [(0, .ref x), (1, .int p1), (2, .int p2), (3, .int p3)] → sX3_get f g p1 p2 p3 = some (f', g') → W p l e rmX3_get s m args below meth c H locs 0 0 Q (F0 m 0 ls []) := by
  have hx := X.1
  have hb := X.2.1
  have hown := X.2.2.2.1
  have hts := X.2.2.2.2.1
  have hK := X.2.2.2.2.2.1
  have hNN := X.2.2.2.2.2.2.1.2
  intro H locs ls f g p1 p2 p3 h hl hs
  unfold sX3_get at hs
  refine lv_aload_n hx hb dX3_get_0 rfl (lv_at hl 0 rfl) ?_
  refine lv_iload_n hx hb dX3_get_1 rfl (lv_at hl 1 rfl) ?_
  obtain ⟨r1, h2, hs⟩ := bR_some hs
  refine rh_Si X h (kX3_isRoot l G h2) (va_cwS 1 hts gX3_get_X3_isRoot rfl rfl rfl (by decide +kernel) ⟨Nat.le_of_ble_eq_true rfl, Nat.le_of_ble_eq_true rfl⟩) rfl hl.1 rfl (Nat.le_of_ble_eq_true rfl) dX3_get_2 ⟨Nat.zero_le _, Nat.zero_le _⟩ (fun H locs h => ?_)
  refine lv_if_eq (tgt := 15) hx hb dX3_get_5 (by decide) (fun c3 => ?_) (fun c3 => ?_)
  · have hs := ite_p c3 hs
    exact bX3_get_15 X ret  _ _ _ f g p1 p2 p3 h (lv_sub hl [0, 1, 2, 3] rfl) hs
  · have hs := ite_n c3 hs
    refine lv_iload_n hx hb dX3_get_8 rfl (lv_at hl 2 rfl) ?_
    obtain ⟨r19, h20, hs⟩ := bR_some hs
    refine rh_Si X h (kX3_isRoot l G h20) (va_cwS 1 hts gX3_get_X3_isRoot rfl rfl rfl (by decide +kernel) ⟨Nat.le_of_ble_eq_true rfl, Nat.le_of_ble_eq_true rfl⟩) rfl hl.1 rfl (Nat.le_of_ble_eq_true rfl) dX3_get_9 ⟨Nat.zero_le _, Nat.zero_le _⟩ (fun H locs h => ?_)
    refine lv_if_ne (tgt := 19) hx hb dX3_get_12 (by decide) (fun c21 => ?_) (fun c21 => ?_)
    · have hs := ite_n c21 hs
      refine lv_aload_n hx hb dX3_get_19 rfl (lv_at hl 0 rfl) ?_
      refine lv_iload_n hx hb dX3_get_20 rfl (lv_at hl 2 rfl) ?_
      refine lv_iload_n hx hb dX3_get_21 rfl (lv_at hl 3 rfl) ?_
      obtain ⟨r22, h23, hs⟩ := bR_some hs
      refine rh_Vi X h (kX3_hasField l G (cyI := cyI) (cyZ := cyZ) (x := x) (ad := ad) h23) (cwV 2 hts gX3_get_X3_hasField rfl rfl rfl (by decide +kernel) ⟨Nat.le_of_ble_eq_true rfl, Nat.le_of_ble_eq_true rfl⟩) (va_recv hK h.1 (ci := 3) (q0 := 0) rfl rfl) rfl hl.1 rfl (Nat.le_of_ble_eq_true rfl) dX3_get_22 ⟨Nat.zero_le _, Nat.zero_le _⟩ (fun H locs h => ?_)
      refine lv_if_ne (tgt := 32) hx hb dX3_get_25 (by decide) (fun c24 => ?_) (fun c24 => ?_)
      · have hs := ite_n c24 hs
        refine lv_iconst (v := 0) hx hb dX3_get_32 (by decide) ?_
        exact bX3_get_33 X ret  _ _ _ f g p1 p2 p3 0 h (lv_sub hl [0, 1, 2, 3] rfl) hs
      · have hs := ite_p c24 hs
        refine lv_iconst (v := 2) hx hb dX3_get_28 (by decide) ?_
        refine lv_goto (tgt := 33) hx hb dX3_get_29 (by decide) ?_
        exact bX3_get_33 X ret  _ _ _ f g p1 p2 p3 2 h (lv_sub hl [0, 1, 2, 3] rfl) hs
    · have hs := ite_p c21 hs
      exact bX3_get_15 X ret  _ _ _ f g p1 p2 p3 h (lv_sub hl [0, 1, 2, 3] rfl) hs
theorem kX3_get (l : Launch) (G : va_G) {cyI cyZ : ClassId} {x : Nat} {ad : Nat → Nat} {f : Nat → Int32} {g : Nat → Nat → Int32} {p1 : Int32} {p2 : Int32} {p3 : Int32} {f' : Nat → Int32} {g' : Nat → Nat → Int32} (hs : sX3_get f g p1 p2 p3 = some (f', g')) : rh_Mv l yX3_get wsX3_get rmX3_get G [(cyI, .int), (cyZ, .boolean)] [] (mw cyI cyZ x ad f g) [.ref x, .int p1, .int p2, .int p3] (mw cyI cyZ x ad f' g') :=
  rh_ofv (by decide +kernel) rfl (Nat.le_of_ble_eq_true rfl) (fun p e s m below meth c A Q X ret ls hl h => bX3_get X ret _ _ ls f g p1 p2 p3 h hl hs)
abbrev rmX3_move : Room := { frames := 1, cells := 0, slots := 0, locals := 20 }
set_option maxRecDepth 100000 in
theorem iX3_move_X3 : ∀ w ∈ u_ws RX3 TX3 22, w ∈ wsX3_move := by decide +kernel
def sX3_move (f : Nat → Int32) (g : Nat → Nat → Int32) (p1 : Int32) (p2 : Int32) : Option (Int32 × (Nat → Int32) × (Nat → Nat → Int32)) := bR (sX3_isRoot  p1) (fun r1 => if r1 = 0 then (some ((0, (upd f 0 0), g))) else (bR (sX3_isRoot  p2) (fun r4 => if r4 = 0 then (some ((0, (upd f 0 0), g))) else (rd (g 4) 16 p2 (fun v7 => wt 16 p1 (rd (g 5) 16 p2 (fun v11 => wt 16 p1 (some ((1, (upd f 0 0), (ur (ur g 4 (upd (g 4) p1.toNatClampNeg (vp_nar .boolean v7))) 5 (upd (g 5) p1.toNatClampNeg v11))))))))))))
set_option maxHeartbeats 4000000 in
set_option maxRecDepth 100000 in
theorem bX3_move {p : Program} {l : Launch} {e : Env} {s : State} {m : MethodId} {args : Array Value} {below : List Frame} {meth : Method} {c : Code} {Q : State → Prop} {A : Nat → Prop} {G : va_G} {cyI cyZ : ClassId} {x : Nat} {ad : Nat → Nat} (X : rh_X p s m args c cX3_move 3 RX3 wsX3_move G [(cyI, .int), (cyZ, .boolean)] [] A) {r' : Int32} {f' : Nat → Int32} {g' : Nat → Nat → Int32} (ret : ∀ (H : Heap) (locs : List Loc) (ls : Array Slot) (pc : Nat), narrow .boolean (.int r') = .int r' → decode cX3_move pc = .ok (.ireturn, 1) → rh_W G A s H locs (mw cyI cyZ x ad f' g') → W p l e rmX3_move s m args below meth c H locs 0 0 Q (F0 m pc ls [.int r'])) : ∀ (H : Heap) (locs : List Loc) (ls : Array Slot) (f : Nat → Int32) (g : Nat → Nat → Int32) (p1 : Int32) (p2 : Int32), rh_W G A s H locs (mw cyI cyZ x ad f g) → lv_has ls 3 [(0, .ref x), (1, .int p1), (2, .int p2)] → sX3_move f g p1 p2 = some (r', f', g') → W p l e rmX3_move s m args below meth c H locs 0 0 Q (F0 m 0 ls []) := by
  have hx := X.1
  have hb := X.2.1
  have hown := X.2.2.2.1
  have hts := X.2.2.2.2.1
  have hK := X.2.2.2.2.2.1
  have hNN := X.2.2.2.2.2.2.1.2
  intro H locs ls f g p1 p2 h hl hs
  unfold sX3_move at hs
  refine lv_aload_n hx hb dX3_move_0 rfl (lv_at hl 0 rfl) ?_
  refine lv_iconst (v := 0) hx hb dX3_move_1 (by decide) ?_
  refine rh_put X h iX3_move_X3 tyX3 tyX3_ok nmX3 0 0 rfl rfl (by decide) (by decide +kernel) rfl rfl rfl (Nat.le_of_ble_eq_true rfl) dX3_move_2 (fun H locs h => ?_)
  have h : rh_W G A s H locs (mw cyI cyZ x ad (upd f 0 0) g) := mp_0 h
  refine lv_iload_n hx hb dX3_move_5 rfl (lv_at hl 1 rfl) ?_
  obtain ⟨r1, h2, hs⟩ := bR_some hs
  refine rh_Si X h (kX3_isRoot l G h2) (va_cwS 1 hts gX3_move_X3_isRoot rfl rfl rfl (by decide +kernel) ⟨Nat.le_of_ble_eq_true rfl, Nat.le_of_ble_eq_true rfl⟩) rfl hl.1 rfl (Nat.le_of_ble_eq_true rfl) dX3_move_6 ⟨Nat.zero_le _, Nat.zero_le _⟩ (fun H locs h => ?_)
  refine lv_if_eq (tgt := 19) hx hb dX3_move_9 (by decide) (fun c3 => ?_) (fun c3 => ?_)
  · have hs := ite_p c3 hs
    refine lv_iconst (v := 0) hx hb dX3_move_19 (by decide) ?_
    cases hs
    exact ret _ _ _ _ rfl dX3_move_20 h
  · have hs := ite_n c3 hs
    refine lv_iload_n hx hb dX3_move_12 rfl (lv_at hl 2 rfl) ?_
    obtain ⟨r4, h5, hs⟩ := bR_some hs
    refine rh_Si X h (kX3_isRoot l G h5) (va_cwS 1 hts gX3_move_X3_isRoot rfl rfl rfl (by decide +kernel) ⟨Nat.le_of_ble_eq_true rfl, Nat.le_of_ble_eq_true rfl⟩) rfl hl.1 rfl (Nat.le_of_ble_eq_true rfl) dX3_move_13 ⟨Nat.zero_le _, Nat.zero_le _⟩ (fun H locs h => ?_)
    refine lv_if_ne (tgt := 21) hx hb dX3_move_16 (by decide) (fun c6 => ?_) (fun c6 => ?_)
    · have hs := ite_n c6 hs
      refine lv_aload_n hx hb dX3_move_21 rfl (lv_at hl 0 rfl) ?_
      refine rh_get X h (v := .ref (ad 5)) iX3_move_X3 0 8 rfl rfl (by decide) (by decide +kernel) rfl dX3_move_22 ?_
      refine lv_iload_n hx hb dX3_move_25 rfl (lv_at hl 1 rfl) ?_
      refine lv_aload_n hx hb dX3_move_26 rfl (lv_at hl 0 rfl) ?_
      refine rh_get X h (v := .ref (ad 5)) iX3_move_X3 0 8 rfl rfl (by decide) (by decide +kernel) rfl dX3_move_27 ?_
      refine lv_iload_n hx hb dX3_move_30 rfl (lv_at hl 2 rfl) ?_
      obtain ⟨i9, v7, e8, hs⟩ := rd_some hs
      refine rh_zald X h 5 1 rfl rfl i9 e8 dX3_move_31 ?_
      obtain ⟨i10, hs⟩ := wt_some hs
      refine rh_zast X h 5 1 rfl rfl i10 dX3_move_32 (fun H locs h => ?_)
      have h : rh_W G A s H locs (mw cyI cyZ x ad (upd f 0 0) (ur g 4 (upd (g 4) p1.toNatClampNeg (vp_nar .boolean v7)))) := mr_4 h
      refine lv_aload_n hx hb dX3_move_33 rfl (lv_at hl 0 rfl) ?_
      refine rh_get X h (v := .ref (ad 6)) iX3_move_X3 0 9 rfl rfl (by decide) (by decide +kernel) rfl dX3_move_34 ?_
      refine lv_iload_n hx hb dX3_move_37 rfl (lv_at hl 1 rfl) ?_
      refine lv_aload_n hx hb dX3_move_38 rfl (lv_at hl 0 rfl) ?_
      refine rh_get X h (v := .ref (ad 6)) iX3_move_X3 0 9 rfl rfl (by decide) (by decide +kernel) rfl dX3_move_39 ?_
      refine lv_iload_n hx hb dX3_move_42 rfl (lv_at hl 2 rfl) ?_
      obtain ⟨i13, v11, e12, hs⟩ := rd_some hs
      refine rh_iald X h 6 0 rfl rfl i13 e12 dX3_move_43 ?_
      obtain ⟨i14, hs⟩ := wt_some hs
      refine rh_iast X h 6 0 rfl rfl i14 dX3_move_44 (fun H locs h => ?_)
      have h : rh_W G A s H locs (mw cyI cyZ x ad (upd f 0 0) (ur (ur g 4 (upd (g 4) p1.toNatClampNeg (vp_nar .boolean v7))) 5 (upd (g 5) p1.toNatClampNeg v11))) := mr_5 h
      refine lv_iconst (v := 1) hx hb dX3_move_45 (by decide) ?_
      cases hs
      exact ret _ _ _ _ rfl dX3_move_46 h
    · have hs := ite_p c6 hs
      refine lv_iconst (v := 0) hx hb dX3_move_19 (by decide) ?_
      cases hs
      exact ret _ _ _ _ rfl dX3_move_20 h
theorem kX3_move (l : Launch) (G : va_G) {cyI cyZ : ClassId} {x : Nat} {ad : Nat → Nat} {f : Nat → Int32} {g : Nat → Nat → Int32} {p1 : Int32} {p2 : Int32} {r' : Int32} {f' : Nat → Int32} {g' : Nat → Nat → Int32} (hs : sX3_move f g p1 p2 = some (r', f', g')) : rh_Mi l yX3_move wsX3_move rmX3_move G [(cyI, .int), (cyZ, .boolean)] [] (mw cyI cyZ x ad f g) [.ref x, .int p1, .int p2] r' (mw cyI cyZ x ad f' g') :=
  rh_ofi (by decide +kernel) rfl (Nat.le_of_ble_eq_true rfl) (fun p e s m below meth c A Q X ret ls hl h => bX3_move X ret _ _ ls f g p1 p2 h hl hs)
abbrev rmX3_number : Room := { frames := 1, cells := 0, slots := 0, locals := 20 }
set_option maxRecDepth 100000 in
theorem iX3_number_X3 : ∀ w ∈ u_ws RX3 TX3 22, w ∈ wsX3_number := by decide +kernel
def sX3_number (f : Nat → Int32) (g : Nat → Nat → Int32) (p1 : Int32) (p2 : Int32) : Option (Int32 × (Nat → Int32) × (Nat → Nat → Int32)) := bR (sX3_isRoot  p1) (fun r1 => if r1 = 0 then (some ((0, (upd f 0 0), g))) else (wt 16 p1 (wt 16 p1 (some ((1, (upd f 0 0), (ur (ur g 4 (upd (g 4) p1.toNatClampNeg (vp_nar .boolean 0))) 5 (upd (g 5) p1.toNatClampNeg p2))))))))
set_option maxHeartbeats 4000000 in
set_option maxRecDepth 100000 in
theorem bX3_number {p : Program} {l : Launch} {e : Env} {s : State} {m : MethodId} {args : Array Value} {below : List Frame} {meth : Method} {c : Code} {Q : State → Prop} {A : Nat → Prop} {G : va_G} {cyI cyZ : ClassId} {x : Nat} {ad : Nat → Nat} (X : rh_X p s m args c cX3_number 3 RX3 wsX3_number G [(cyI, .int), (cyZ, .boolean)] [] A) {r' : Int32} {f' : Nat → Int32} {g' : Nat → Nat → Int32} (ret : ∀ (H : Heap) (locs : List Loc) (ls : Array Slot) (pc : Nat), narrow .boolean (.int r') = .int r' → decode cX3_number pc = .ok (.ireturn, 1) → rh_W G A s H locs (mw cyI cyZ x ad f' g') → W p l e rmX3_number s m args below meth c H locs 0 0 Q (F0 m pc ls [.int r'])) : ∀ (H : Heap) (locs : List Loc) (ls : Array Slot) (f : Nat → Int32) (g : Nat → Nat → Int32) (p1 : Int32) (p2 : Int32), rh_W G A s H locs (mw cyI cyZ x ad f g) → lv_has ls 3 [(0, .ref x), (1, .int p1), (2, .int p2)] → sX3_number f g p1 p2 = some (r', f', g') → W p l e rmX3_number s m args below meth c H locs 0 0 Q (F0 m 0 ls []) := by
  have hx := X.1
  have hb := X.2.1
  have hown := X.2.2.2.1
  have hts := X.2.2.2.2.1
  have hK := X.2.2.2.2.2.1
  have hNN := X.2.2.2.2.2.2.1.2
  intro H locs ls f g p1 p2 h hl hs
  unfold sX3_number at hs
  refine lv_aload_n hx hb dX3_number_0 rfl (lv_at hl 0 rfl) ?_
  refine lv_iconst (v := 0) hx hb dX3_number_1 (by decide) ?_
  refine rh_put X h iX3_number_X3 tyX3 tyX3_ok nmX3 0 0 rfl rfl (by decide) (by decide +kernel) rfl rfl rfl (Nat.le_of_ble_eq_true rfl) dX3_number_2 (fun H locs h => ?_)
  have h : rh_W G A s H locs (mw cyI cyZ x ad (upd f 0 0) g) := mp_0 h
  refine lv_iload_n hx hb dX3_number_5 rfl (lv_at hl 1 rfl) ?_
  obtain ⟨r1, h2, hs⟩ := bR_some hs
  refine rh_Si X h (kX3_isRoot l G h2) (va_cwS 1 hts gX3_number_X3_isRoot rfl rfl rfl (by decide +kernel) ⟨Nat.le_of_ble_eq_true rfl, Nat.le_of_ble_eq_true rfl⟩) rfl hl.1 rfl (Nat.le_of_ble_eq_true rfl) dX3_number_6 ⟨Nat.zero_le _, Nat.zero_le _⟩ (fun H locs h => ?_)
  refine lv_if_ne (tgt := 14) hx hb dX3_number_9 (by decide) (fun c3 => ?_) (fun c3 => ?_)
  · have hs := ite_n c3 hs
    refine lv_aload_n hx hb dX3_number_14 rfl (lv_at hl 0 rfl) ?_
    refine rh_get X h (v := .ref (ad 5)) iX3_number_X3 0 8 rfl rfl (by decide) (by decide +kernel) rfl dX3_number_15 ?_
    refine lv_iload_n hx hb dX3_number_18 rfl (lv_at hl 1 rfl) ?_
    refine lv_iconst (v := 0) hx hb dX3_number_19 (by decide) ?_
    obtain ⟨i4, hs⟩ := wt_some hs
    refine rh_zast X h 5 1 rfl rfl i4 dX3_number_20 (fun H locs h => ?_)
    have h : rh_W G A s H locs (mw cyI cyZ x ad (upd f 0 0) (ur g 4 (upd (g 4) p1.toNatClampNeg (vp_nar .boolean 0)))) := mr_4 h
    refine lv_aload_n hx hb dX3_number_21 rfl (lv_at hl 0 rfl) ?_
    refine rh_get X h (v := .ref (ad 6)) iX3_number_X3 0 9 rfl rfl (by decide) (by decide +kernel) rfl dX3_number_22 ?_
    refine lv_iload_n hx hb dX3_number_25 rfl (lv_at hl 1 rfl) ?_
    refine lv_iload_n hx hb dX3_number_26 rfl (lv_at hl 2 rfl) ?_
    obtain ⟨i5, hs⟩ := wt_some hs
    refine rh_iast X h 6 0 rfl rfl i5 dX3_number_27 (fun H locs h => ?_)
    have h : rh_W G A s H locs (mw cyI cyZ x ad (upd f 0 0) (ur (ur g 4 (upd (g 4) p1.toNatClampNeg (vp_nar .boolean 0))) 5 (upd (g 5) p1.toNatClampNeg p2))) := mr_5 h
    refine lv_iconst (v := 1) hx hb dX3_number_28 (by decide) ?_
    cases hs
    exact ret _ _ _ _ rfl dX3_number_29 h
  · have hs := ite_p c3 hs
    refine lv_iconst (v := 0) hx hb dX3_number_12 (by decide) ?_
    cases hs
    exact ret _ _ _ _ rfl dX3_number_13 h
theorem kX3_number (l : Launch) (G : va_G) {cyI cyZ : ClassId} {x : Nat} {ad : Nat → Nat} {f : Nat → Int32} {g : Nat → Nat → Int32} {p1 : Int32} {p2 : Int32} {r' : Int32} {f' : Nat → Int32} {g' : Nat → Nat → Int32} (hs : sX3_number f g p1 p2 = some (r', f', g')) : rh_Mi l yX3_number wsX3_number rmX3_number G [(cyI, .int), (cyZ, .boolean)] [] (mw cyI cyZ x ad f g) [.ref x, .int p1, .int p2] r' (mw cyI cyZ x ad f' g') :=
  rh_ofi (by decide +kernel) rfl (Nat.le_of_ble_eq_true rfl) (fun p e s m below meth c A Q X ret ls hl h => bX3_number X ret _ _ ls f g p1 p2 h hl hs)
abbrev rmX3_collect : Room := { frames := 6, cells := 0, slots := 0, locals := 136 }
set_option maxRecDepth 100000 in
theorem iX3_collect_X3 : ∀ w ∈ u_ws RX3 TX3 22, w ∈ wsX3_collect := by decide +kernel
def sX3_collect_11 (f : Nat → Int32) (g : Nat → Nat → Int32) (v1 : Int32) (t1 : Int32) : Option (Int32 × (Nat → Int32) × (Nat → Nat → Int32)) := if t1 ≤ 0 then (bWv (sX3_open (upd f 0 t1) g) (fun f3 g4 => bWv (sX3_begin f3 g4) (fun f6 g7 => bWi (sX3_work f6 g7 v1) (fun r9 f10 g11 => bWv (sX3_close f10 g11) (fun f13 g14 => some ((r9, f13, g14))))))) else (some ((0, (upd f 0 t1), g)))
set_option maxHeartbeats 4000000 in
set_option maxRecDepth 100000 in
theorem bX3_collect_11 {p : Program} {l : Launch} {e : Env} {s : State} {m : MethodId} {args : Array Value} {below : List Frame} {meth : Method} {c : Code} {Q : State → Prop} {A : Nat → Prop} {G : va_G} {cyI cyZ : ClassId} {x : Nat} {ad : Nat → Nat} (X : rh_X p s m args c cX3_collect 3 RX3 wsX3_collect G [(cyI, .int), (cyZ, .boolean)] [] A) {r' : Int32} {f' : Nat → Int32} {g' : Nat → Nat → Int32} (ret : ∀ (H : Heap) (locs : List Loc) (ls : Array Slot) (pc : Nat), narrow .int (.int r') = .int r' → decode cX3_collect pc = .ok (.ireturn, 1) → rh_W G A s H locs (mw cyI cyZ x ad f' g') → W p l e rmX3_collect s m args below meth c H locs 0 0 Q (F0 m pc ls [.int r'])) : ∀ (H : Heap) (locs : List Loc) (ls : Array Slot) (f : Nat → Int32) (g : Nat → Nat → Int32) (v1 : Int32) (t1 : Int32), rh_W G A s H locs (mw cyI cyZ x ad f g) → lv_has ls 3 [(0, .ref x), (1, .int v1)] → sX3_collect_11 f g v1 t1 = some (r', f', g') → W p l e rmX3_collect s m args below meth c H locs 0 0 Q (F0 m 11 ls [.int t1, .ref x]) := by
  have hx := X.1
  have hb := X.2.1
  have hown := X.2.2.2.1
  have hts := X.2.2.2.2.1
  have hK := X.2.2.2.2.2.1
  have hNN := X.2.2.2.2.2.2.1.2
  intro H locs ls f g v1 t1 h hl hs
  unfold sX3_collect_11 at hs
  refine rh_put X h iX3_collect_X3 tyX3 tyX3_ok nmX3 0 0 rfl rfl (by decide) (by decide +kernel) rfl rfl rfl (Nat.le_of_ble_eq_true rfl) dX3_collect_11 (fun H locs h => ?_)
  have h : rh_W G A s H locs (mw cyI cyZ x ad (upd f 0 t1) g) := mp_0 h
  refine lv_aload_n hx hb dX3_collect_14 rfl (lv_at hl 0 rfl) ?_
  refine rh_get X h (v := .int t1) iX3_collect_X3 0 0 rfl rfl (by decide) (by decide +kernel) rfl dX3_collect_15 ?_
  refine lv_if_le (tgt := 23) hx hb dX3_collect_18 (by decide) (fun c2 => ?_) (fun c2 => ?_)
  · have hs := ite_p c2 hs
    refine lv_aload_n hx hb dX3_collect_23 rfl (lv_at hl 0 rfl) ?_
    obtain ⟨f3, g4, h5, hs⟩ := bWv_some hs
    refine rh_Vv X h (kX3_open l G (cyI := cyI) (cyZ := cyZ) (x := x) (ad := ad) h5) (cwV 0 hts gX3_collect_X3_open rfl rfl rfl (by decide +kernel) ⟨Nat.le_of_ble_eq_true rfl, Nat.le_of_ble_eq_true rfl⟩) (va_recv hK h.1 (ci := 3) (q0 := 0) rfl rfl) rfl hl.1 rfl (Nat.le_of_ble_eq_true rfl) dX3_collect_24 ⟨Nat.zero_le _, Nat.zero_le _⟩ (fun H locs h => ?_)
    refine lv_aload_n hx hb dX3_collect_27 rfl (lv_at hl 0 rfl) ?_
    obtain ⟨f6, g7, h8, hs⟩ := bWv_some hs
    refine rh_Vv X h (kX3_begin l G (cyI := cyI) (cyZ := cyZ) (x := x) (ad := ad) h8) (cwV 0 hts gX3_collect_X3_begin rfl rfl rfl (by decide +kernel) ⟨Nat.le_of_ble_eq_true rfl, Nat.le_of_ble_eq_true rfl⟩) (va_recv hK h.1 (ci := 3) (q0 := 0) rfl rfl) rfl hl.1 rfl (Nat.le_of_ble_eq_true rfl) dX3_collect_28 ⟨Nat.zero_le _, Nat.zero_le _⟩ (fun H locs h => ?_)
    refine lv_aload_n hx hb dX3_collect_31 rfl (lv_at hl 0 rfl) ?_
    refine lv_iload_n hx hb dX3_collect_32 rfl (lv_at hl 1 rfl) ?_
    obtain ⟨r9, f10, g11, h12, hs⟩ := bWi_some hs
    refine rh_Vi X h (kX3_work l G (cyI := cyI) (cyZ := cyZ) (x := x) (ad := ad) h12) (cwV 1 hts gX3_collect_X3_work rfl rfl rfl (by decide +kernel) ⟨Nat.le_of_ble_eq_true rfl, Nat.le_of_ble_eq_true rfl⟩) (va_recv hK h.1 (ci := 3) (q0 := 0) rfl rfl) rfl hl.1 rfl (Nat.le_of_ble_eq_true rfl) dX3_collect_33 ⟨Nat.zero_le _, Nat.zero_le _⟩ (fun H locs h => ?_)
    refine lv_istore_n (lv' := [(2, .int r9), (0, .ref x), (1, .int v1)]) hx hb dX3_collect_36 rfl hl (by decide) rfl (fun ls hl => ?_)
    refine lv_aload_n hx hb dX3_collect_37 rfl (lv_at hl 1 rfl) ?_
    obtain ⟨f13, g14, h15, hs⟩ := bWv_some hs
    refine rh_Vv X h (kX3_close l G (cyI := cyI) (cyZ := cyZ) (x := x) (ad := ad) h15) (cwV 0 hts gX3_collect_X3_close rfl rfl rfl (by decide +kernel) ⟨Nat.le_of_ble_eq_true rfl, Nat.le_of_ble_eq_true rfl⟩) (va_recv hK h.1 (ci := 3) (q0 := 0) rfl rfl) rfl hl.1 rfl (Nat.le_of_ble_eq_true rfl) dX3_collect_38 ⟨Nat.zero_le _, Nat.zero_le _⟩ (fun H locs h => ?_)
    refine lv_iload_n hx hb dX3_collect_41 rfl (lv_at hl 0 rfl) ?_
    cases hs
    exact ret _ _ _ _ rfl dX3_collect_42 h
  · have hs := ite_n c2 hs
    refine lv_iconst (v := 0) hx hb dX3_collect_21 (by decide) ?_
    cases hs
    exact ret _ _ _ _ rfl dX3_collect_22 h
def sX3_collect (f : Nat → Int32) (g : Nat → Nat → Int32) (p1 : Int32) : Option (Int32 × (Nat → Int32) × (Nat → Nat → Int32)) := if (-1) ≤ p1 then (sX3_collect_11 f g p1 0) else (sX3_collect_11 f g p1 1)
set_option maxHeartbeats 4000000 in
set_option maxRecDepth 100000 in
theorem bX3_collect {p : Program} {l : Launch} {e : Env} {s : State} {m : MethodId} {args : Array Value} {below : List Frame} {meth : Method} {c : Code} {Q : State → Prop} {A : Nat → Prop} {G : va_G} {cyI cyZ : ClassId} {x : Nat} {ad : Nat → Nat} (X : rh_X p s m args c cX3_collect 3 RX3 wsX3_collect G [(cyI, .int), (cyZ, .boolean)] [] A) {r' : Int32} {f' : Nat → Int32} {g' : Nat → Nat → Int32} (ret : ∀ (H : Heap) (locs : List Loc) (ls : Array Slot) (pc : Nat), narrow .int (.int r') = .int r' → decode cX3_collect pc = .ok (.ireturn, 1) → rh_W G A s H locs (mw cyI cyZ x ad f' g') → W p l e rmX3_collect s m args below meth c H locs 0 0 Q (F0 m pc ls [.int r'])) : ∀ (H : Heap) (locs : List Loc) (ls : Array Slot) (f : Nat → Int32) (g : Nat → Nat → Int32) (p1 : Int32), rh_W G A s H locs (mw cyI cyZ x ad f g) → lv_has ls 3 [(0, .ref x), (1, .int p1)] → sX3_collect f g p1 = some (r', f', g') → W p l e rmX3_collect s m args below meth c H locs 0 0 Q (F0 m 0 ls []) := by
  have hx := X.1
  have hb := X.2.1
  have hown := X.2.2.2.1
  have hts := X.2.2.2.2.1
  have hK := X.2.2.2.2.2.1
  have hNN := X.2.2.2.2.2.2.1.2
  intro H locs ls f g p1 h hl hs
  unfold sX3_collect at hs
  refine lv_aload_n hx hb dX3_collect_0 rfl (lv_at hl 0 rfl) ?_
  refine lv_iload_n hx hb dX3_collect_1 rfl (lv_at hl 1 rfl) ?_
  refine lv_iconst (v := (-1)) hx hb dX3_collect_2 (by decide) ?_
  refine lv_icmp_ge (tgt := 10) hx hb dX3_collect_3 (by decide) (fun c1 => ?_) (fun c1 => ?_)
  · have hs := ite_p c1 hs
    refine lv_iconst (v := 0) hx hb dX3_collect_10 (by decide) ?_
    exact bX3_collect_11 X ret  _ _ _ f g p1 0 h (lv_sub hl [0, 1] rfl) hs
  · have hs := ite_n c1 hs
    refine lv_iconst (v := 1) hx hb dX3_collect_6 (by decide) ?_
    refine lv_goto (tgt := 11) hx hb dX3_collect_7 (by decide) ?_
    exact bX3_collect_11 X ret  _ _ _ f g p1 1 h (lv_sub hl [0, 1] rfl) hs
theorem kX3_collect (l : Launch) (G : va_G) {cyI cyZ : ClassId} {x : Nat} {ad : Nat → Nat} {f : Nat → Int32} {g : Nat → Nat → Int32} {p1 : Int32} {r' : Int32} {f' : Nat → Int32} {g' : Nat → Nat → Int32} (hs : sX3_collect f g p1 = some (r', f', g')) : rh_Mi l yX3_collect wsX3_collect rmX3_collect G [(cyI, .int), (cyZ, .boolean)] [] (mw cyI cyZ x ad f g) [.ref x, .int p1] r' (mw cyI cyZ x ad f' g') :=
  rh_ofi (by decide +kernel) rfl (Nat.le_of_ble_eq_true rfl) (fun p e s m below meth c A Q X ret ls hl h => bX3_collect X ret _ _ ls f g p1 h hl hs)
abbrev rmX3_look_ : Room := { frames := 1, cells := 0, slots := 0, locals := 21 }
set_option maxRecDepth 100000 in
theorem iX3_look__X3 : ∀ w ∈ u_ws RX3 TX3 22, w ∈ wsX3_look_ := by decide +kernel
def sX3_look__57 (f : Nat → Int32) (g : Nat → Nat → Int32) (v1 : Int32) (v2 : Int32) (t0 : Int32) (t1 : Int32) : Option (Int32 × (Nat → Int32) × (Nat → Nat → Int32)) := bR (sX3_at  t0 t1) (fun r9 => if v2 = 0 then (rd (g 4) 16 v1 (fun v12 => if v12 = 0 then (some ((0, f, g))) else (some ((1, f, g))))) else if v2 = 1 then (rd (g 5) 16 v1 (fun v17 => some ((v17, f, g)))) else if v2 = 2 then (rd (g 4) 16 v1 (fun v21 => if v21 = 0 then (some ((0, f, g))) else (rd (g 1) 800 r9 (fun v25 => some ((v25, f, g)))))) else rd (g 4) 16 v1 (fun v28 => if v28 = 0 then (some (((-1), f, g))) else (rd (g 2) 800 r9 (fun v32 => some ((v32, f, g))))))
set_option maxHeartbeats 4000000 in
set_option maxRecDepth 100000 in
theorem bX3_look__57 {p : Program} {l : Launch} {e : Env} {s : State} {m : MethodId} {args : Array Value} {below : List Frame} {meth : Method} {c : Code} {Q : State → Prop} {A : Nat → Prop} {G : va_G} {cyI cyZ : ClassId} {x : Nat} {ad : Nat → Nat} (X : rh_X p s m args c cX3_look_ 4 RX3 wsX3_look_ G [(cyI, .int), (cyZ, .boolean)] [] A) {r' : Int32} {f' : Nat → Int32} {g' : Nat → Nat → Int32} (ret : ∀ (H : Heap) (locs : List Loc) (ls : Array Slot) (pc : Nat), narrow .int (.int r') = .int r' → decode cX3_look_ pc = .ok (.ireturn, 1) → rh_W G A s H locs (mw cyI cyZ x ad f' g') → W p l e rmX3_look_ s m args below meth c H locs 0 0 Q (F0 m pc ls [.int r'])) : ∀ (H : Heap) (locs : List Loc) (ls : Array Slot) (f : Nat → Int32) (g : Nat → Nat → Int32) (v1 : Int32) (v2 : Int32) (t0 : Int32) (t1 : Int32), rh_W G A s H locs (mw cyI cyZ x ad f g) → lv_has ls 4 [(0, .ref x), (1, .int v1), (2, .int v2)] → sX3_look__57 f g v1 v2 t0 t1 = some (r', f', g') → W p l e rmX3_look_ s m args below meth c H locs 0 0 Q (F0 m 57 ls [.int t1, .int t0]) := by
  have hx := X.1
  have hb := X.2.1
  have hown := X.2.2.2.1
  have hts := X.2.2.2.2.1
  have hK := X.2.2.2.2.2.1
  have hNN := X.2.2.2.2.2.2.1.2
  intro H locs ls f g v1 v2 t0 t1 h hl hs
  unfold sX3_look__57 at hs
  obtain ⟨r9, h10, hs⟩ := bR_some hs
  refine rh_Si X h (kX3_at l G h10) (va_cwS 2 hts gX3_look__X3_at rfl rfl rfl (by decide +kernel) ⟨Nat.le_of_ble_eq_true rfl, Nat.le_of_ble_eq_true rfl⟩) rfl hl.1 rfl (Nat.le_of_ble_eq_true rfl) dX3_look__57 ⟨Nat.zero_le _, Nat.zero_le _⟩ (fun H locs h => ?_)
  refine lv_istore_n (lv' := [(3, .int r9), (0, .ref x), (1, .int v1), (2, .int v2)]) hx hb dX3_look__60 rfl hl (by decide) rfl (fun ls hl => ?_)
  refine lv_iload_n hx hb dX3_look__61 rfl (lv_at hl 3 rfl) ?_
  by_cases c11 : v2 = 0
  · have hs := ite_p c11 hs
    refine lv_tableIn (tgt := 88) hx hb dX3_look__62 (by rw [c11]; decide) (by rw [c11]; decide) (by rw [c11]; rfl) (by decide) ?_
    refine lv_aload_n hx hb dX3_look__88 rfl (lv_at hl 1 rfl) ?_
    refine rh_get X h (v := .ref (ad 5)) iX3_look__X3 0 8 rfl rfl (by decide) (by decide +kernel) rfl dX3_look__89 ?_
    refine lv_iload_n hx hb dX3_look__92 rfl (lv_at hl 2 rfl) ?_
    obtain ⟨i14, v12, e13, hs⟩ := rd_some hs
    refine rh_zald X h 5 1 rfl rfl i14 e13 dX3_look__93 ?_
    refine lv_if_eq (tgt := 101) hx hb dX3_look__94 (by decide) (fun c15 => ?_) (fun c15 => ?_)
    · have hs := ite_p c15 hs
      refine lv_iconst (v := 0) hx hb dX3_look__101 (by decide) ?_
      cases hs
      exact ret _ _ _ _ rfl dX3_look__102 h
    · have hs := ite_n c15 hs
      refine lv_iconst (v := 1) hx hb dX3_look__97 (by decide) ?_
      refine lv_goto (tgt := 102) hx hb dX3_look__98 (by decide) ?_
      cases hs
      exact ret _ _ _ _ rfl dX3_look__102 h
  have hs := ite_n c11 hs
  by_cases c16 : v2 = 1
  · have hs := ite_p c16 hs
    refine lv_tableIn (tgt := 103) hx hb dX3_look__62 (by rw [c16]; decide) (by rw [c16]; decide) (by rw [c16]; rfl) (by decide) ?_
    refine lv_aload_n hx hb dX3_look__103 rfl (lv_at hl 1 rfl) ?_
    refine rh_get X h (v := .ref (ad 6)) iX3_look__X3 0 9 rfl rfl (by decide) (by decide +kernel) rfl dX3_look__104 ?_
    refine lv_iload_n hx hb dX3_look__107 rfl (lv_at hl 2 rfl) ?_
    obtain ⟨i19, v17, e18, hs⟩ := rd_some hs
    refine rh_iald X h 6 0 rfl rfl i19 e18 dX3_look__108 ?_
    cases hs
    exact ret _ _ _ _ rfl dX3_look__109 h
  have hs := ite_n c16 hs
  by_cases c20 : v2 = 2
  · have hs := ite_p c20 hs
    refine lv_tableIn (tgt := 110) hx hb dX3_look__62 (by rw [c20]; decide) (by rw [c20]; decide) (by rw [c20]; rfl) (by decide) ?_
    refine lv_aload_n hx hb dX3_look__110 rfl (lv_at hl 1 rfl) ?_
    refine rh_get X h (v := .ref (ad 5)) iX3_look__X3 0 8 rfl rfl (by decide) (by decide +kernel) rfl dX3_look__111 ?_
    refine lv_iload_n hx hb dX3_look__114 rfl (lv_at hl 2 rfl) ?_
    obtain ⟨i23, v21, e22, hs⟩ := rd_some hs
    refine rh_zald X h 5 1 rfl rfl i23 e22 dX3_look__115 ?_
    refine lv_if_eq (tgt := 128) hx hb dX3_look__116 (by decide) (fun c24 => ?_) (fun c24 => ?_)
    · have hs := ite_p c24 hs
      refine lv_iconst (v := 0) hx hb dX3_look__128 (by decide) ?_
      cases hs
      exact ret _ _ _ _ rfl dX3_look__129 h
    · have hs := ite_n c24 hs
      refine lv_aload_n hx hb dX3_look__119 rfl (lv_at hl 1 rfl) ?_
      refine rh_get X h (v := .ref (ad 2)) iX3_look__X3 0 4 rfl rfl (by decide) (by decide +kernel) rfl dX3_look__120 ?_
      refine lv_iload_n hx hb dX3_look__123 rfl (lv_at hl 0 rfl) ?_
      obtain ⟨i27, v25, e26, hs⟩ := rd_some hs
      refine rh_iald X h 2 0 rfl rfl i27 e26 dX3_look__124 ?_
      refine lv_goto (tgt := 129) hx hb dX3_look__125 (by decide) ?_
      cases hs
      exact ret _ _ _ _ rfl dX3_look__129 h
  have hs := ite_n c20 hs
  have ec11 : (v2).toInt ≠ 0 := fun e9 => c11 (Int32.toInt_inj.mp (e9.trans (by decide)))
  have ec16 : (v2).toInt ≠ 1 := fun e9 => c16 (Int32.toInt_inj.mp (e9.trans (by decide)))
  have ec20 : (v2).toInt ≠ 2 := fun e9 => c20 (Int32.toInt_inj.mp (e9.trans (by decide)))
  refine lv_tableOut (tgt := 130) hx hb dX3_look__62 (by omega) (by decide) ?_
  refine lv_aload_n hx hb dX3_look__130 rfl (lv_at hl 1 rfl) ?_
  refine rh_get X h (v := .ref (ad 5)) iX3_look__X3 0 8 rfl rfl (by decide) (by decide +kernel) rfl dX3_look__131 ?_
  refine lv_iload_n hx hb dX3_look__134 rfl (lv_at hl 2 rfl) ?_
  obtain ⟨i30, v28, e29, hs⟩ := rd_some hs
  refine rh_zald X h 5 1 rfl rfl i30 e29 dX3_look__135 ?_
  refine lv_if_eq (tgt := 148) hx hb dX3_look__136 (by decide) (fun c31 => ?_) (fun c31 => ?_)
  · have hs := ite_p c31 hs
    refine lv_iconst (v := (-1)) hx hb dX3_look__148 (by decide) ?_
    cases hs
    exact ret _ _ _ _ rfl dX3_look__149 h
  · have hs := ite_n c31 hs
    refine lv_aload_n hx hb dX3_look__139 rfl (lv_at hl 1 rfl) ?_
    refine rh_get X h (v := .ref (ad 3)) iX3_look__X3 0 5 rfl rfl (by decide) (by decide +kernel) rfl dX3_look__140 ?_
    refine lv_iload_n hx hb dX3_look__143 rfl (lv_at hl 0 rfl) ?_
    obtain ⟨i34, v32, e33, hs⟩ := rd_some hs
    refine rh_iald X h 3 0 rfl rfl i34 e33 dX3_look__144 ?_
    refine lv_goto (tgt := 149) hx hb dX3_look__145 (by decide) ?_
    cases hs
    exact ret _ _ _ _ rfl dX3_look__149 h
def sX3_look__22 (f : Nat → Int32) (g : Nat → Nat → Int32) (v1 : Int32) (v2 : Int32) (t1 : Int32) : Option (Int32 × (Nat → Int32) × (Nat → Nat → Int32)) := if t1 ≤ 0 then (rd (g 4) 16 v1 (fun v5 => if v5 = 0 then (sX3_look__57 (upd f 0 t1) g v1 v2 (f 3) 0) else (rd (g 5) 16 v1 (fun v35 => sX3_look__57 (upd f 0 t1) g v1 v2 (f 3) v35)))) else (some ((0, (upd f 0 t1), g)))
set_option maxHeartbeats 4000000 in
set_option maxRecDepth 100000 in
theorem bX3_look__22 {p : Program} {l : Launch} {e : Env} {s : State} {m : MethodId} {args : Array Value} {below : List Frame} {meth : Method} {c : Code} {Q : State → Prop} {A : Nat → Prop} {G : va_G} {cyI cyZ : ClassId} {x : Nat} {ad : Nat → Nat} (X : rh_X p s m args c cX3_look_ 4 RX3 wsX3_look_ G [(cyI, .int), (cyZ, .boolean)] [] A) {r' : Int32} {f' : Nat → Int32} {g' : Nat → Nat → Int32} (ret : ∀ (H : Heap) (locs : List Loc) (ls : Array Slot) (pc : Nat), narrow .int (.int r') = .int r' → decode cX3_look_ pc = .ok (.ireturn, 1) → rh_W G A s H locs (mw cyI cyZ x ad f' g') → W p l e rmX3_look_ s m args below meth c H locs 0 0 Q (F0 m pc ls [.int r'])) : ∀ (H : Heap) (locs : List Loc) (ls : Array Slot) (f : Nat → Int32) (g : Nat → Nat → Int32) (v1 : Int32) (v2 : Int32) (t1 : Int32), rh_W G A s H locs (mw cyI cyZ x ad f g) → lv_has ls 4 [(0, .ref x), (1, .int v1), (2, .int v2)] → sX3_look__22 f g v1 v2 t1 = some (r', f', g') → W p l e rmX3_look_ s m args below meth c H locs 0 0 Q (F0 m 22 ls [.int t1, .ref x]) := by
  have hx := X.1
  have hb := X.2.1
  have hown := X.2.2.2.1
  have hts := X.2.2.2.2.1
  have hK := X.2.2.2.2.2.1
  have hNN := X.2.2.2.2.2.2.1.2
  intro H locs ls f g v1 v2 t1 h hl hs
  unfold sX3_look__22 at hs
  refine rh_put X h iX3_look__X3 tyX3 tyX3_ok nmX3 0 0 rfl rfl (by decide) (by decide +kernel) rfl rfl rfl (Nat.le_of_ble_eq_true rfl) dX3_look__22 (fun H locs h => ?_)
  have h : rh_W G A s H locs (mw cyI cyZ x ad (upd f 0 t1) g) := mp_0 h
  refine lv_aload_n hx hb dX3_look__25 rfl (lv_at hl 0 rfl) ?_
  refine rh_get X h (v := .int t1) iX3_look__X3 0 0 rfl rfl (by decide) (by decide +kernel) rfl dX3_look__26 ?_
  refine lv_if_le (tgt := 34) hx hb dX3_look__29 (by decide) (fun c4 => ?_) (fun c4 => ?_)
  · have hs := ite_p c4 hs
    refine lv_aload_n hx hb dX3_look__34 rfl (lv_at hl 0 rfl) ?_
    refine rh_get X h (v := .int (f 3)) iX3_look__X3 0 7 rfl rfl (by decide) (by decide +kernel) rfl dX3_look__35 ?_
    refine lv_aload_n hx hb dX3_look__38 rfl (lv_at hl 0 rfl) ?_
    refine rh_get X h (v := .ref (ad 5)) iX3_look__X3 0 8 rfl rfl (by decide) (by decide +kernel) rfl dX3_look__39 ?_
    refine lv_iload_n hx hb dX3_look__42 rfl (lv_at hl 1 rfl) ?_
    obtain ⟨i7, v5, e6, hs⟩ := rd_some hs
    refine rh_zald X h 5 1 rfl rfl i7 e6 dX3_look__43 ?_
    refine lv_if_eq (tgt := 56) hx hb dX3_look__44 (by decide) (fun c8 => ?_) (fun c8 => ?_)
    · have hs := ite_p c8 hs
      refine lv_iconst (v := 0) hx hb dX3_look__56 (by decide) ?_
      exact bX3_look__57 X ret  _ _ _ (upd f 0 t1) g v1 v2 (f 3) 0 h (lv_sub hl [0, 1, 2] rfl) hs
    · have hs := ite_n c8 hs
      refine lv_aload_n hx hb dX3_look__47 rfl (lv_at hl 0 rfl) ?_
      refine rh_get X h (v := .ref (ad 6)) iX3_look__X3 0 9 rfl rfl (by decide) (by decide +kernel) rfl dX3_look__48 ?_
      refine lv_iload_n hx hb dX3_look__51 rfl (lv_at hl 1 rfl) ?_
      obtain ⟨i37, v35, e36, hs⟩ := rd_some hs
      refine rh_iald X h 6 0 rfl rfl i37 e36 dX3_look__52 ?_
      refine lv_goto (tgt := 57) hx hb dX3_look__53 (by decide) ?_
      exact bX3_look__57 X ret  _ _ _ (upd f 0 t1) g v1 v2 (f 3) v35 h (lv_sub hl [0, 1, 2] rfl) hs
  · have hs := ite_n c4 hs
    refine lv_iconst (v := 0) hx hb dX3_look__32 (by decide) ?_
    cases hs
    exact ret _ _ _ _ rfl dX3_look__33 h
def sX3_look__21 (f : Nat → Int32) (g : Nat → Nat → Int32) (v1 : Int32) (v2 : Int32) : Option (Int32 × (Nat → Int32) × (Nat → Nat → Int32)) := sX3_look__22 f g v1 v2 1
set_option maxHeartbeats 4000000 in
set_option maxRecDepth 100000 in
theorem bX3_look__21 {p : Program} {l : Launch} {e : Env} {s : State} {m : MethodId} {args : Array Value} {below : List Frame} {meth : Method} {c : Code} {Q : State → Prop} {A : Nat → Prop} {G : va_G} {cyI cyZ : ClassId} {x : Nat} {ad : Nat → Nat} (X : rh_X p s m args c cX3_look_ 4 RX3 wsX3_look_ G [(cyI, .int), (cyZ, .boolean)] [] A) {r' : Int32} {f' : Nat → Int32} {g' : Nat → Nat → Int32} (ret : ∀ (H : Heap) (locs : List Loc) (ls : Array Slot) (pc : Nat), narrow .int (.int r') = .int r' → decode cX3_look_ pc = .ok (.ireturn, 1) → rh_W G A s H locs (mw cyI cyZ x ad f' g') → W p l e rmX3_look_ s m args below meth c H locs 0 0 Q (F0 m pc ls [.int r'])) : ∀ (H : Heap) (locs : List Loc) (ls : Array Slot) (f : Nat → Int32) (g : Nat → Nat → Int32) (v1 : Int32) (v2 : Int32), rh_W G A s H locs (mw cyI cyZ x ad f g) → lv_has ls 4 [(0, .ref x), (1, .int v1), (2, .int v2)] → sX3_look__21 f g v1 v2 = some (r', f', g') → W p l e rmX3_look_ s m args below meth c H locs 0 0 Q (F0 m 21 ls [.ref x]) := by
  have hx := X.1
  have hb := X.2.1
  have hown := X.2.2.2.1
  have hts := X.2.2.2.2.1
  have hK := X.2.2.2.2.2.1
  have hNN := X.2.2.2.2.2.2.1.2
  intro H locs ls f g v1 v2 h hl hs
  unfold sX3_look__21 at hs
  refine lv_iconst (v := 1) hx hb dX3_look__21 (by decide) ?_
  exact bX3_look__22 X ret  _ _ _ f g v1 v2 1 h (lv_sub hl [0, 1, 2] rfl) hs
def sX3_look_ (f : Nat → Int32) (g : Nat → Nat → Int32) (p1 : Int32) (p2 : Int32) : Option (Int32 × (Nat → Int32) × (Nat → Nat → Int32)) := bR (sX3_isRoot  p1) (fun r1 => if r1 = 0 then (sX3_look__21 f g p1 p2) else (if p2 < 0 then (sX3_look__21 f g p1 p2) else (if 4 ≤ p2 then (sX3_look__21 f g p1 p2) else (sX3_look__22 f g p1 p2 0))))
set_option maxHeartbeats 4000000 in
set_option maxRecDepth 100000 in
theorem bX3_look_ {p : Program} {l : Launch} {e : Env} {s : State} {m : MethodId} {args : Array Value} {below : List Frame} {meth : Method} {c : Code} {Q : State → Prop} {A : Nat → Prop} {G : va_G} {cyI cyZ : ClassId} {x : Nat} {ad : Nat → Nat} (X : rh_X p s m args c cX3_look_ 4 RX3 wsX3_look_ G [(cyI, .int), (cyZ, .boolean)] [] A) {r' : Int32} {f' : Nat → Int32} {g' : Nat → Nat → Int32} (ret : ∀ (H : Heap) (locs : List Loc) (ls : Array Slot) (pc : Nat), narrow .int (.int r') = .int r' → decode cX3_look_ pc = .ok (.ireturn, 1) → rh_W G A s H locs (mw cyI cyZ x ad f' g') → W p l e rmX3_look_ s m args below meth c H locs 0 0 Q (F0 m pc ls [.int r'])) : ∀ (H : Heap) (locs : List Loc) (ls : Array Slot) (f : Nat → Int32) (g : Nat → Nat → Int32) (p1 : Int32) (p2 : Int32), rh_W G A s H locs (mw cyI cyZ x ad f g) → lv_has ls 4 [(0, .ref x), (1, .int p1), (2, .int p2)] → sX3_look_ f g p1 p2 = some (r', f', g') → W p l e rmX3_look_ s m args below meth c H locs 0 0 Q (F0 m 0 ls []) := by
  have hx := X.1
  have hb := X.2.1
  have hown := X.2.2.2.1
  have hts := X.2.2.2.2.1
  have hK := X.2.2.2.2.2.1
  have hNN := X.2.2.2.2.2.2.1.2
  intro H locs ls f g p1 p2 h hl hs
  unfold sX3_look_ at hs
  refine lv_aload_n hx hb dX3_look__0 rfl (lv_at hl 0 rfl) ?_
  refine lv_iload_n hx hb dX3_look__1 rfl (lv_at hl 1 rfl) ?_
  obtain ⟨r1, h2, hs⟩ := bR_some hs
  refine rh_Si X h (kX3_isRoot l G h2) (va_cwS 1 hts gX3_look__X3_isRoot rfl rfl rfl (by decide +kernel) ⟨Nat.le_of_ble_eq_true rfl, Nat.le_of_ble_eq_true rfl⟩) rfl hl.1 rfl (Nat.le_of_ble_eq_true rfl) dX3_look__2 ⟨Nat.zero_le _, Nat.zero_le _⟩ (fun H locs h => ?_)
  refine lv_if_eq (tgt := 21) hx hb dX3_look__5 (by decide) (fun c3 => ?_) (fun c3 => ?_)
  · have hs := ite_p c3 hs
    exact bX3_look__21 X ret  _ _ _ f g p1 p2 h (lv_sub hl [0, 1, 2] rfl) hs
  · have hs := ite_n c3 hs
    refine lv_iload_n hx hb dX3_look__8 rfl (lv_at hl 2 rfl) ?_
    refine lv_if_lt (tgt := 21) hx hb dX3_look__9 (by decide) (fun c38 => ?_) (fun c38 => ?_)
    · have hs := ite_p c38 hs
      exact bX3_look__21 X ret  _ _ _ f g p1 p2 h (lv_sub hl [0, 1, 2] rfl) hs
    · have hs := ite_n c38 hs
      refine lv_iload_n hx hb dX3_look__12 rfl (lv_at hl 2 rfl) ?_
      refine lv_iconst (v := 4) hx hb dX3_look__13 (by decide) ?_
      refine lv_icmp_ge (tgt := 21) hx hb dX3_look__14 (by decide) (fun c39 => ?_) (fun c39 => ?_)
      · have hs := ite_p c39 hs
        exact bX3_look__21 X ret  _ _ _ f g p1 p2 h (lv_sub hl [0, 1, 2] rfl) hs
      · have hs := ite_n c39 hs
        refine lv_iconst (v := 0) hx hb dX3_look__17 (by decide) ?_
        refine lv_goto (tgt := 22) hx hb dX3_look__18 (by decide) ?_
        exact bX3_look__22 X ret  _ _ _ f g p1 p2 0 h (lv_sub hl [0, 1, 2] rfl) hs
theorem kX3_look_ (l : Launch) (G : va_G) {cyI cyZ : ClassId} {x : Nat} {ad : Nat → Nat} {f : Nat → Int32} {g : Nat → Nat → Int32} {p1 : Int32} {p2 : Int32} {r' : Int32} {f' : Nat → Int32} {g' : Nat → Nat → Int32} (hs : sX3_look_ f g p1 p2 = some (r', f', g')) : rh_Mi l yX3_look_ wsX3_look_ rmX3_look_ G [(cyI, .int), (cyZ, .boolean)] [] (mw cyI cyZ x ad f g) [.ref x, .int p1, .int p2] r' (mw cyI cyZ x ad f' g') :=
  rh_ofi (by decide +kernel) rfl (Nat.le_of_ble_eq_true rfl) (fun p e s m below meth c A Q X ret ls hl h => bX3_look_ X ret _ _ ls f g p1 p2 h hl hs)
abbrev rmX3_field : Room := { frames := 2, cells := 0, slots := 0, locals := 43 }
set_option maxRecDepth 100000 in
theorem iX3_field_X3 : ∀ w ∈ u_ws RX3 TX3 22, w ∈ wsX3_field := by decide +kernel
def sX3_field_42 (f : Nat → Int32) (g : Nat → Nat → Int32) (v1 : Int32) (v2 : Int32) (v3 : Int32) (t1 : Int32) : Option (Int32 × (Nat → Int32) × (Nat → Nat → Int32)) := if t1 ≤ 0 then (rd (g 5) 16 v1 (fun v5 => bR (sX3_at  (f 3) v5) (fun r8 => if v3 = 1 then (rd (g 1) 800 ((r8 + 1) + v2) (fun v15 => some ((v15, (upd f 0 t1), g)))) else (rd (g 0) 800 ((r8 + 1) + v2) (fun v11 => if v11 = 0 then (some ((0, (upd f 0 t1), g))) else (some ((1, (upd f 0 t1), g)))))))) else (some ((0, (upd f 0 t1), g)))
set_option maxHeartbeats 4000000 in
set_option maxRecDepth 100000 in
theorem bX3_field_42 {p : Program} {l : Launch} {e : Env} {s : State} {m : MethodId} {args : Array Value} {below : List Frame} {meth : Method} {c : Code} {Q : State → Prop} {A : Nat → Prop} {G : va_G} {cyI cyZ : ClassId} {x : Nat} {ad : Nat → Nat} (X : rh_X p s m args c cX3_field 5 RX3 wsX3_field G [(cyI, .int), (cyZ, .boolean)] [] A) {r' : Int32} {f' : Nat → Int32} {g' : Nat → Nat → Int32} (ret : ∀ (H : Heap) (locs : List Loc) (ls : Array Slot) (pc : Nat), narrow .int (.int r') = .int r' → decode cX3_field pc = .ok (.ireturn, 1) → rh_W G A s H locs (mw cyI cyZ x ad f' g') → W p l e rmX3_field s m args below meth c H locs 0 0 Q (F0 m pc ls [.int r'])) : ∀ (H : Heap) (locs : List Loc) (ls : Array Slot) (f : Nat → Int32) (g : Nat → Nat → Int32) (v1 : Int32) (v2 : Int32) (v3 : Int32) (t1 : Int32), rh_W G A s H locs (mw cyI cyZ x ad f g) → lv_has ls 5 [(0, .ref x), (1, .int v1), (2, .int v2), (3, .int v3)] → sX3_field_42 f g v1 v2 v3 t1 = some (r', f', g') → W p l e rmX3_field s m args below meth c H locs 0 0 Q (F0 m 42 ls [.int t1, .ref x]) := by
  have hx := X.1
  have hb := X.2.1
  have hown := X.2.2.2.1
  have hts := X.2.2.2.2.1
  have hK := X.2.2.2.2.2.1
  have hNN := X.2.2.2.2.2.2.1.2
  intro H locs ls f g v1 v2 v3 t1 h hl hs
  unfold sX3_field_42 at hs
  refine rh_put X h iX3_field_X3 tyX3 tyX3_ok nmX3 0 0 rfl rfl (by decide) (by decide +kernel) rfl rfl rfl (Nat.le_of_ble_eq_true rfl) dX3_field_42 (fun H locs h => ?_)
  have h : rh_W G A s H locs (mw cyI cyZ x ad (upd f 0 t1) g) := mp_0 h
  refine lv_aload_n hx hb dX3_field_45 rfl (lv_at hl 0 rfl) ?_
  refine rh_get X h (v := .int t1) iX3_field_X3 0 0 rfl rfl (by decide) (by decide +kernel) rfl dX3_field_46 ?_
  refine lv_if_le (tgt := 54) hx hb dX3_field_49 (by decide) (fun c4 => ?_) (fun c4 => ?_)
  · have hs := ite_p c4 hs
    refine lv_aload_n hx hb dX3_field_54 rfl (lv_at hl 0 rfl) ?_
    refine rh_get X h (v := .int (f 3)) iX3_field_X3 0 7 rfl rfl (by decide) (by decide +kernel) rfl dX3_field_55 ?_
    refine lv_aload_n hx hb dX3_field_58 rfl (lv_at hl 0 rfl) ?_
    refine rh_get X h (v := .ref (ad 6)) iX3_field_X3 0 9 rfl rfl (by decide) (by decide +kernel) rfl dX3_field_59 ?_
    refine lv_iload_n hx hb dX3_field_62 rfl (lv_at hl 1 rfl) ?_
    obtain ⟨i7, v5, e6, hs⟩ := rd_some hs
    refine rh_iald X h 6 0 rfl rfl i7 e6 dX3_field_63 ?_
    obtain ⟨r8, h9, hs⟩ := bR_some hs
    refine rh_Si X h (kX3_at l G h9) (va_cwS 2 hts gX3_field_X3_at rfl rfl rfl (by decide +kernel) ⟨Nat.le_of_ble_eq_true rfl, Nat.le_of_ble_eq_true rfl⟩) rfl hl.1 rfl (Nat.le_of_ble_eq_true rfl) dX3_field_64 ⟨Nat.zero_le _, Nat.zero_le _⟩ (fun H locs h => ?_)
    refine lv_iconst (v := 1) hx hb dX3_field_67 (by decide) ?_
    refine lv_iadd hx hb dX3_field_68 ?_
    refine lv_iload_n hx hb dX3_field_69 rfl (lv_at hl 2 rfl) ?_
    refine lv_iadd hx hb dX3_field_70 ?_
    refine lv_istore (lv' := [(4, .int ((r8 + 1) + v2)), (0, .ref x), (1, .int v1), (2, .int v2), (3, .int v3)]) hx hb dX3_field_71 hl (by decide) rfl (fun ls hl => ?_)
    refine lv_iload_n hx hb dX3_field_73 rfl (lv_at hl 4 rfl) ?_
    refine lv_iconst (v := 1) hx hb dX3_field_74 (by decide) ?_
    refine lv_icmp_ne (tgt := 88) hx hb dX3_field_75 (by decide) (fun c10 => ?_) (fun c10 => ?_)
    · have hs := ite_n c10 hs
      refine lv_aload_n hx hb dX3_field_88 rfl (lv_at hl 1 rfl) ?_
      refine rh_get X h (v := .ref (ad 1)) iX3_field_X3 0 3 rfl rfl (by decide) (by decide +kernel) rfl dX3_field_89 ?_
      refine lv_iload hx hb dX3_field_92 (lv_at hl 0 rfl) ?_
      obtain ⟨i13, v11, e12, hs⟩ := rd_some hs
      refine rh_iald X h 1 0 rfl rfl i13 e12 dX3_field_94 ?_
      refine lv_if_ne (tgt := 102) hx hb dX3_field_95 (by decide) (fun c14 => ?_) (fun c14 => ?_)
      · have hs := ite_n c14 hs
        refine lv_iconst (v := 1) hx hb dX3_field_102 (by decide) ?_
        cases hs
        exact ret _ _ _ _ rfl dX3_field_103 h
      · have hs := ite_p c14 hs
        refine lv_iconst (v := 0) hx hb dX3_field_98 (by decide) ?_
        refine lv_goto (tgt := 103) hx hb dX3_field_99 (by decide) ?_
        cases hs
        exact ret _ _ _ _ rfl dX3_field_103 h
    · have hs := ite_p c10 hs
      refine lv_aload_n hx hb dX3_field_78 rfl (lv_at hl 1 rfl) ?_
      refine rh_get X h (v := .ref (ad 2)) iX3_field_X3 0 4 rfl rfl (by decide) (by decide +kernel) rfl dX3_field_79 ?_
      refine lv_iload hx hb dX3_field_82 (lv_at hl 0 rfl) ?_
      obtain ⟨i17, v15, e16, hs⟩ := rd_some hs
      refine rh_iald X h 2 0 rfl rfl i17 e16 dX3_field_84 ?_
      refine lv_goto (tgt := 103) hx hb dX3_field_85 (by decide) ?_
      cases hs
      exact ret _ _ _ _ rfl dX3_field_103 h
  · have hs := ite_n c4 hs
    refine lv_iconst (v := 0) hx hb dX3_field_52 (by decide) ?_
    cases hs
    exact ret _ _ _ _ rfl dX3_field_53 h
def sX3_field_41 (f : Nat → Int32) (g : Nat → Nat → Int32) (v1 : Int32) (v2 : Int32) (v3 : Int32) : Option (Int32 × (Nat → Int32) × (Nat → Nat → Int32)) := sX3_field_42 f g v1 v2 v3 1
set_option maxHeartbeats 4000000 in
set_option maxRecDepth 100000 in
theorem bX3_field_41 {p : Program} {l : Launch} {e : Env} {s : State} {m : MethodId} {args : Array Value} {below : List Frame} {meth : Method} {c : Code} {Q : State → Prop} {A : Nat → Prop} {G : va_G} {cyI cyZ : ClassId} {x : Nat} {ad : Nat → Nat} (X : rh_X p s m args c cX3_field 5 RX3 wsX3_field G [(cyI, .int), (cyZ, .boolean)] [] A) {r' : Int32} {f' : Nat → Int32} {g' : Nat → Nat → Int32} (ret : ∀ (H : Heap) (locs : List Loc) (ls : Array Slot) (pc : Nat), narrow .int (.int r') = .int r' → decode cX3_field pc = .ok (.ireturn, 1) → rh_W G A s H locs (mw cyI cyZ x ad f' g') → W p l e rmX3_field s m args below meth c H locs 0 0 Q (F0 m pc ls [.int r'])) : ∀ (H : Heap) (locs : List Loc) (ls : Array Slot) (f : Nat → Int32) (g : Nat → Nat → Int32) (v1 : Int32) (v2 : Int32) (v3 : Int32), rh_W G A s H locs (mw cyI cyZ x ad f g) → lv_has ls 5 [(0, .ref x), (1, .int v1), (2, .int v2), (3, .int v3)] → sX3_field_41 f g v1 v2 v3 = some (r', f', g') → W p l e rmX3_field s m args below meth c H locs 0 0 Q (F0 m 41 ls [.ref x]) := by
  have hx := X.1
  have hb := X.2.1
  have hown := X.2.2.2.1
  have hts := X.2.2.2.2.1
  have hK := X.2.2.2.2.2.1
  have hNN := X.2.2.2.2.2.2.1.2
  intro H locs ls f g v1 v2 v3 h hl hs
  unfold sX3_field_41 at hs
  refine lv_iconst (v := 1) hx hb dX3_field_41 (by decide) ?_
  exact bX3_field_42 X ret  _ _ _ f g v1 v2 v3 1 h (lv_sub hl [0, 1, 2, 3] rfl) hs
def sX3_field_30 (f : Nat → Int32) (g : Nat → Nat → Int32) (v1 : Int32) (v2 : Int32) (v3 : Int32) (t2 : Int32) : Option (Int32 × (Nat → Int32) × (Nat → Nat → Int32)) := bR (sX3_hasField f g t2 v2) (fun r23 => if r23 = 0 then (sX3_field_41 f g v1 v2 v3) else (sX3_field_42 f g v1 v2 v3 0))
set_option maxHeartbeats 4000000 in
set_option maxRecDepth 100000 in
theorem bX3_field_30 {p : Program} {l : Launch} {e : Env} {s : State} {m : MethodId} {args : Array Value} {below : List Frame} {meth : Method} {c : Code} {Q : State → Prop} {A : Nat → Prop} {G : va_G} {cyI cyZ : ClassId} {x : Nat} {ad : Nat → Nat} (X : rh_X p s m args c cX3_field 5 RX3 wsX3_field G [(cyI, .int), (cyZ, .boolean)] [] A) {r' : Int32} {f' : Nat → Int32} {g' : Nat → Nat → Int32} (ret : ∀ (H : Heap) (locs : List Loc) (ls : Array Slot) (pc : Nat), narrow .int (.int r') = .int r' → decode cX3_field pc = .ok (.ireturn, 1) → rh_W G A s H locs (mw cyI cyZ x ad f' g') → W p l e rmX3_field s m args below meth c H locs 0 0 Q (F0 m pc ls [.int r'])) : ∀ (H : Heap) (locs : List Loc) (ls : Array Slot) (f : Nat → Int32) (g : Nat → Nat → Int32) (v1 : Int32) (v2 : Int32) (v3 : Int32) (t2 : Int32), rh_W G A s H locs (mw cyI cyZ x ad f g) → lv_has ls 5 [(0, .ref x), (1, .int v1), (2, .int v2), (3, .int v3)] → sX3_field_30 f g v1 v2 v3 t2 = some (r', f', g') → W p l e rmX3_field s m args below meth c H locs 0 0 Q (F0 m 30 ls [.int t2, .ref x, .ref x]) := by
  have hx := X.1
  have hb := X.2.1
  have hown := X.2.2.2.1
  have hts := X.2.2.2.2.1
  have hK := X.2.2.2.2.2.1
  have hNN := X.2.2.2.2.2.2.1.2
  intro H locs ls f g v1 v2 v3 t2 h hl hs
  unfold sX3_field_30 at hs
  refine lv_iload_n hx hb dX3_field_30 rfl (lv_at hl 2 rfl) ?_
  obtain ⟨r23, h24, hs⟩ := bR_some hs
  refine rh_Vi X h (kX3_hasField l G (cyI := cyI) (cyZ := cyZ) (x := x) (ad := ad) h24) (cwV 2 hts gX3_field_X3_hasField rfl rfl rfl (by decide +kernel) ⟨Nat.le_of_ble_eq_true rfl, Nat.le_of_ble_eq_true rfl⟩) (va_recv hK h.1 (ci := 3) (q0 := 0) rfl rfl) rfl hl.1 rfl (Nat.le_of_ble_eq_true rfl) dX3_field_31 ⟨Nat.zero_le _, Nat.zero_le _⟩ (fun H locs h => ?_)
  refine lv_if_eq (tgt := 41) hx hb dX3_field_34 (by decide) (fun c25 => ?_) (fun c25 => ?_)
  · have hs := ite_p c25 hs
    exact bX3_field_41 X ret  _ _ _ f g v1 v2 v3 h (lv_sub hl [0, 1, 2, 3] rfl) hs
  · have hs := ite_n c25 hs
    refine lv_iconst (v := 0) hx hb dX3_field_37 (by decide) ?_
    refine lv_goto (tgt := 42) hx hb dX3_field_38 (by decide) ?_
    exact bX3_field_42 X ret  _ _ _ f g v1 v2 v3 0 h (lv_sub hl [0, 1, 2, 3] rfl) hs
def sX3_field (f : Nat → Int32) (g : Nat → Nat → Int32) (p1 : Int32) (p2 : Int32) (p3 : Int32) : Option (Int32 × (Nat → Int32) × (Nat → Nat → Int32)) := bR (sX3_isRoot  p1) (fun r1 => if r1 = 0 then (sX3_field_41 f g p1 p2 p3) else (if p3 < 0 then (sX3_field_41 f g p1 p2 p3) else (if 2 ≤ p3 then (sX3_field_41 f g p1 p2 p3) else (bR (sX3_isRoot  p1) (fun r20 => if r20 = 0 then (sX3_field_30 f g p1 p2 p3 0) else (sX3_field_30 f g p1 p2 p3 p1))))))
set_option maxHeartbeats 4000000 in
set_option maxRecDepth 100000 in
theorem bX3_field {p : Program} {l : Launch} {e : Env} {s : State} {m : MethodId} {args : Array Value} {below : List Frame} {meth : Method} {c : Code} {Q : State → Prop} {A : Nat → Prop} {G : va_G} {cyI cyZ : ClassId} {x : Nat} {ad : Nat → Nat} (X : rh_X p s m args c cX3_field 5 RX3 wsX3_field G [(cyI, .int), (cyZ, .boolean)] [] A) {r' : Int32} {f' : Nat → Int32} {g' : Nat → Nat → Int32} (ret : ∀ (H : Heap) (locs : List Loc) (ls : Array Slot) (pc : Nat), narrow .int (.int r') = .int r' → decode cX3_field pc = .ok (.ireturn, 1) → rh_W G A s H locs (mw cyI cyZ x ad f' g') → W p l e rmX3_field s m args below meth c H locs 0 0 Q (F0 m pc ls [.int r'])) : ∀ (H : Heap) (locs : List Loc) (ls : Array Slot) (f : Nat → Int32) (g : Nat → Nat → Int32) (p1 : Int32) (p2 : Int32) (p3 : Int32), rh_W G A s H locs (mw cyI cyZ x ad f g) → lv_has ls 5 [(0, .ref x), (1, .int p1), (2, .int p2), (3, .int p3)] → sX3_field f g p1 p2 p3 = some (r', f', g') → W p l e rmX3_field s m args below meth c H locs 0 0 Q (F0 m 0 ls []) := by
  have hx := X.1
  have hb := X.2.1
  have hown := X.2.2.2.1
  have hts := X.2.2.2.2.1
  have hK := X.2.2.2.2.2.1
  have hNN := X.2.2.2.2.2.2.1.2
  intro H locs ls f g p1 p2 p3 h hl hs
  unfold sX3_field at hs
  refine lv_aload_n hx hb dX3_field_0 rfl (lv_at hl 0 rfl) ?_
  refine lv_iload_n hx hb dX3_field_1 rfl (lv_at hl 1 rfl) ?_
  obtain ⟨r1, h2, hs⟩ := bR_some hs
  refine rh_Si X h (kX3_isRoot l G h2) (va_cwS 1 hts gX3_field_X3_isRoot rfl rfl rfl (by decide +kernel) ⟨Nat.le_of_ble_eq_true rfl, Nat.le_of_ble_eq_true rfl⟩) rfl hl.1 rfl (Nat.le_of_ble_eq_true rfl) dX3_field_2 ⟨Nat.zero_le _, Nat.zero_le _⟩ (fun H locs h => ?_)
  refine lv_if_eq (tgt := 41) hx hb dX3_field_5 (by decide) (fun c3 => ?_) (fun c3 => ?_)
  · have hs := ite_p c3 hs
    exact bX3_field_41 X ret  _ _ _ f g p1 p2 p3 h (lv_sub hl [0, 1, 2, 3] rfl) hs
  · have hs := ite_n c3 hs
    refine lv_iload_n hx hb dX3_field_8 rfl (lv_at hl 3 rfl) ?_
    refine lv_if_lt (tgt := 41) hx hb dX3_field_9 (by decide) (fun c18 => ?_) (fun c18 => ?_)
    · have hs := ite_p c18 hs
      exact bX3_field_41 X ret  _ _ _ f g p1 p2 p3 h (lv_sub hl [0, 1, 2, 3] rfl) hs
    · have hs := ite_n c18 hs
      refine lv_iload_n hx hb dX3_field_12 rfl (lv_at hl 3 rfl) ?_
      refine lv_iconst (v := 2) hx hb dX3_field_13 (by decide) ?_
      refine lv_icmp_ge (tgt := 41) hx hb dX3_field_14 (by decide) (fun c19 => ?_) (fun c19 => ?_)
      · have hs := ite_p c19 hs
        exact bX3_field_41 X ret  _ _ _ f g p1 p2 p3 h (lv_sub hl [0, 1, 2, 3] rfl) hs
      · have hs := ite_n c19 hs
        refine lv_aload_n hx hb dX3_field_17 rfl (lv_at hl 0 rfl) ?_
        refine lv_iload_n hx hb dX3_field_18 rfl (lv_at hl 1 rfl) ?_
        obtain ⟨r20, h21, hs⟩ := bR_some hs
        refine rh_Si X h (kX3_isRoot l G h21) (va_cwS 1 hts gX3_field_X3_isRoot rfl rfl rfl (by decide +kernel) ⟨Nat.le_of_ble_eq_true rfl, Nat.le_of_ble_eq_true rfl⟩) rfl hl.1 rfl (Nat.le_of_ble_eq_true rfl) dX3_field_19 ⟨Nat.zero_le _, Nat.zero_le _⟩ (fun H locs h => ?_)
        refine lv_if_eq (tgt := 29) hx hb dX3_field_22 (by decide) (fun c22 => ?_) (fun c22 => ?_)
        · have hs := ite_p c22 hs
          refine lv_iconst (v := 0) hx hb dX3_field_29 (by decide) ?_
          exact bX3_field_30 X ret  _ _ _ f g p1 p2 p3 0 h (lv_sub hl [0, 1, 2, 3] rfl) hs
        · have hs := ite_n c22 hs
          refine lv_iload_n hx hb dX3_field_25 rfl (lv_at hl 1 rfl) ?_
          refine lv_goto (tgt := 30) hx hb dX3_field_26 (by decide) ?_
          exact bX3_field_30 X ret  _ _ _ f g p1 p2 p3 p1 h (lv_sub hl [0, 1, 2, 3] rfl) hs
theorem kX3_field (l : Launch) (G : va_G) {cyI cyZ : ClassId} {x : Nat} {ad : Nat → Nat} {f : Nat → Int32} {g : Nat → Nat → Int32} {p1 : Int32} {p2 : Int32} {p3 : Int32} {r' : Int32} {f' : Nat → Int32} {g' : Nat → Nat → Int32} (hs : sX3_field f g p1 p2 p3 = some (r', f', g')) : rh_Mi l yX3_field wsX3_field rmX3_field G [(cyI, .int), (cyZ, .boolean)] [] (mw cyI cyZ x ad f g) [.ref x, .int p1, .int p2, .int p3] r' (mw cyI cyZ x ad f' g') :=
  rh_ofi (by decide +kernel) rfl (Nat.le_of_ble_eq_true rfl) (fun p e s m below meth c A Q X ret ls hl h => bX3_field X ret _ _ ls f g p1 p2 p3 h hl hs)
abbrev rmX3_cell : Room := { frames := 1, cells := 0, slots := 0, locals := 21 }
set_option maxRecDepth 100000 in
theorem iX3_cell_X3 : ∀ w ∈ u_ws RX3 TX3 22, w ∈ wsX3_cell := by decide +kernel
def sX3_cell_59 (f : Nat → Int32) (g : Nat → Nat → Int32) (v1 : Int32) (v2 : Int32) (v3 : Int32) (t1 : Int32) : Option (Int32 × (Nat → Int32) × (Nat → Nat → Int32)) := if t1 ≤ 0 then (bR (sX3_at  v1 v2) (fun r5 => if v3 = 0 then (rd (g 0) 800 r5 (fun v19 => some ((v19, (upd f 0 t1), g)))) else (if v3 = 1 then (rd (g 1) 800 r5 (fun v16 => some ((v16, (upd f 0 t1), g)))) else (rd (g 0) 800 r5 (fun v9 => if v9 = 3 then (rd (g 2) 800 r5 (fun v13 => some ((v13, (upd f 0 t1), g)))) else (some (((-1), (upd f 0 t1), g)))))))) else (some ((0, (upd f 0 t1), g)))
set_option maxHeartbeats 4000000 in
set_option maxRecDepth 100000 in
theorem bX3_cell_59 {p : Program} {l : Launch} {e : Env} {s : State} {m : MethodId} {args : Array Value} {below : List Frame} {meth : Method} {c : Code} {Q : State → Prop} {A : Nat → Prop} {G : va_G} {cyI cyZ : ClassId} {x : Nat} {ad : Nat → Nat} (X : rh_X p s m args c cX3_cell 6 RX3 wsX3_cell G [(cyI, .int), (cyZ, .boolean)] [] A) {r' : Int32} {f' : Nat → Int32} {g' : Nat → Nat → Int32} (ret : ∀ (H : Heap) (locs : List Loc) (ls : Array Slot) (pc : Nat), narrow .int (.int r') = .int r' → decode cX3_cell pc = .ok (.ireturn, 1) → rh_W G A s H locs (mw cyI cyZ x ad f' g') → W p l e rmX3_cell s m args below meth c H locs 0 0 Q (F0 m pc ls [.int r'])) : ∀ (H : Heap) (locs : List Loc) (ls : Array Slot) (f : Nat → Int32) (g : Nat → Nat → Int32) (v1 : Int32) (v2 : Int32) (v3 : Int32) (t1 : Int32), rh_W G A s H locs (mw cyI cyZ x ad f g) → lv_has ls 6 [(0, .ref x), (1, .int v1), (2, .int v2), (3, .int v3)] → sX3_cell_59 f g v1 v2 v3 t1 = some (r', f', g') → W p l e rmX3_cell s m args below meth c H locs 0 0 Q (F0 m 59 ls [.int t1, .ref x]) := by
  have hx := X.1
  have hb := X.2.1
  have hown := X.2.2.2.1
  have hts := X.2.2.2.2.1
  have hK := X.2.2.2.2.2.1
  have hNN := X.2.2.2.2.2.2.1.2
  intro H locs ls f g v1 v2 v3 t1 h hl hs
  unfold sX3_cell_59 at hs
  refine rh_put X h iX3_cell_X3 tyX3 tyX3_ok nmX3 0 0 rfl rfl (by decide) (by decide +kernel) rfl rfl rfl (Nat.le_of_ble_eq_true rfl) dX3_cell_59 (fun H locs h => ?_)
  have h : rh_W G A s H locs (mw cyI cyZ x ad (upd f 0 t1) g) := mp_0 h
  refine lv_aload_n hx hb dX3_cell_62 rfl (lv_at hl 0 rfl) ?_
  refine rh_get X h (v := .int t1) iX3_cell_X3 0 0 rfl rfl (by decide) (by decide +kernel) rfl dX3_cell_63 ?_
  refine lv_if_le (tgt := 71) hx hb dX3_cell_66 (by decide) (fun c4 => ?_) (fun c4 => ?_)
  · have hs := ite_p c4 hs
    refine lv_iload_n hx hb dX3_cell_71 rfl (lv_at hl 1 rfl) ?_
    refine lv_iload_n hx hb dX3_cell_72 rfl (lv_at hl 2 rfl) ?_
    obtain ⟨r5, h6, hs⟩ := bR_some hs
    refine rh_Si X h (kX3_at l G h6) (va_cwS 2 hts gX3_cell_X3_at rfl rfl rfl (by decide +kernel) ⟨Nat.le_of_ble_eq_true rfl, Nat.le_of_ble_eq_true rfl⟩) rfl hl.1 rfl (Nat.le_of_ble_eq_true rfl) dX3_cell_73 ⟨Nat.zero_le _, Nat.zero_le _⟩ (fun H locs h => ?_)
    refine lv_istore (lv' := [(5, .int r5), (0, .ref x), (1, .int v1), (2, .int v2), (3, .int v3)]) hx hb dX3_cell_76 hl (by decide) rfl (fun ls hl => ?_)
    refine lv_iload_n hx hb dX3_cell_78 rfl (lv_at hl 4 rfl) ?_
    refine lv_if_ne (tgt := 92) hx hb dX3_cell_79 (by decide) (fun c7 => ?_) (fun c7 => ?_)
    · have hs := ite_n c7 hs
      refine lv_iload_n hx hb dX3_cell_92 rfl (lv_at hl 4 rfl) ?_
      refine lv_iconst (v := 1) hx hb dX3_cell_93 (by decide) ?_
      refine lv_icmp_ne (tgt := 107) hx hb dX3_cell_94 (by decide) (fun c8 => ?_) (fun c8 => ?_)
      · have hs := ite_n c8 hs
        refine lv_aload_n hx hb dX3_cell_107 rfl (lv_at hl 1 rfl) ?_
        refine rh_get X h (v := .ref (ad 1)) iX3_cell_X3 0 3 rfl rfl (by decide) (by decide +kernel) rfl dX3_cell_108 ?_
        refine lv_iload hx hb dX3_cell_111 (lv_at hl 0 rfl) ?_
        obtain ⟨i11, v9, e10, hs⟩ := rd_some hs
        refine rh_iald X h 1 0 rfl rfl i11 e10 dX3_cell_113 ?_
        refine lv_iconst (v := 3) hx hb dX3_cell_114 (by decide) ?_
        refine lv_icmp_ne (tgt := 128) hx hb dX3_cell_115 (by decide) (fun c12 => ?_) (fun c12 => ?_)
        · have hs := ite_n c12 hs
          refine lv_iconst (v := (-1)) hx hb dX3_cell_128 (by decide) ?_
          cases hs
          exact ret _ _ _ _ rfl dX3_cell_129 h
        · have hs := ite_p c12 hs
          refine lv_aload_n hx hb dX3_cell_118 rfl (lv_at hl 1 rfl) ?_
          refine rh_get X h (v := .ref (ad 3)) iX3_cell_X3 0 5 rfl rfl (by decide) (by decide +kernel) rfl dX3_cell_119 ?_
          refine lv_iload hx hb dX3_cell_122 (lv_at hl 0 rfl) ?_
          obtain ⟨i15, v13, e14, hs⟩ := rd_some hs
          refine rh_iald X h 3 0 rfl rfl i15 e14 dX3_cell_124 ?_
          refine lv_goto (tgt := 129) hx hb dX3_cell_125 (by decide) ?_
          cases hs
          exact ret _ _ _ _ rfl dX3_cell_129 h
      · have hs := ite_p c8 hs
        refine lv_aload_n hx hb dX3_cell_97 rfl (lv_at hl 1 rfl) ?_
        refine rh_get X h (v := .ref (ad 2)) iX3_cell_X3 0 4 rfl rfl (by decide) (by decide +kernel) rfl dX3_cell_98 ?_
        refine lv_iload hx hb dX3_cell_101 (lv_at hl 0 rfl) ?_
        obtain ⟨i18, v16, e17, hs⟩ := rd_some hs
        refine rh_iald X h 2 0 rfl rfl i18 e17 dX3_cell_103 ?_
        refine lv_goto (tgt := 129) hx hb dX3_cell_104 (by decide) ?_
        cases hs
        exact ret _ _ _ _ rfl dX3_cell_129 h
    · have hs := ite_p c7 hs
      refine lv_aload_n hx hb dX3_cell_82 rfl (lv_at hl 1 rfl) ?_
      refine rh_get X h (v := .ref (ad 1)) iX3_cell_X3 0 3 rfl rfl (by decide) (by decide +kernel) rfl dX3_cell_83 ?_
      refine lv_iload hx hb dX3_cell_86 (lv_at hl 0 rfl) ?_
      obtain ⟨i21, v19, e20, hs⟩ := rd_some hs
      refine rh_iald X h 1 0 rfl rfl i21 e20 dX3_cell_88 ?_
      refine lv_goto (tgt := 129) hx hb dX3_cell_89 (by decide) ?_
      cases hs
      exact ret _ _ _ _ rfl dX3_cell_129 h
  · have hs := ite_n c4 hs
    refine lv_iconst (v := 0) hx hb dX3_cell_69 (by decide) ?_
    cases hs
    exact ret _ _ _ _ rfl dX3_cell_70 h
def sX3_cell_58 (f : Nat → Int32) (g : Nat → Nat → Int32) (v1 : Int32) (v2 : Int32) (v3 : Int32) : Option (Int32 × (Nat → Int32) × (Nat → Nat → Int32)) := sX3_cell_59 f g v1 v2 v3 1
set_option maxHeartbeats 4000000 in
set_option maxRecDepth 100000 in
theorem bX3_cell_58 {p : Program} {l : Launch} {e : Env} {s : State} {m : MethodId} {args : Array Value} {below : List Frame} {meth : Method} {c : Code} {Q : State → Prop} {A : Nat → Prop} {G : va_G} {cyI cyZ : ClassId} {x : Nat} {ad : Nat → Nat} (X : rh_X p s m args c cX3_cell 6 RX3 wsX3_cell G [(cyI, .int), (cyZ, .boolean)] [] A) {r' : Int32} {f' : Nat → Int32} {g' : Nat → Nat → Int32} (ret : ∀ (H : Heap) (locs : List Loc) (ls : Array Slot) (pc : Nat), narrow .int (.int r') = .int r' → decode cX3_cell pc = .ok (.ireturn, 1) → rh_W G A s H locs (mw cyI cyZ x ad f' g') → W p l e rmX3_cell s m args below meth c H locs 0 0 Q (F0 m pc ls [.int r'])) : ∀ (H : Heap) (locs : List Loc) (ls : Array Slot) (f : Nat → Int32) (g : Nat → Nat → Int32) (v1 : Int32) (v2 : Int32) (v3 : Int32), rh_W G A s H locs (mw cyI cyZ x ad f g) → lv_has ls 6 [(0, .ref x), (1, .int v1), (2, .int v2), (3, .int v3)] → sX3_cell_58 f g v1 v2 v3 = some (r', f', g') → W p l e rmX3_cell s m args below meth c H locs 0 0 Q (F0 m 58 ls [.ref x]) := by
  have hx := X.1
  have hb := X.2.1
  have hown := X.2.2.2.1
  have hts := X.2.2.2.2.1
  have hK := X.2.2.2.2.2.1
  have hNN := X.2.2.2.2.2.2.1.2
  intro H locs ls f g v1 v2 v3 h hl hs
  unfold sX3_cell_58 at hs
  refine lv_iconst (v := 1) hx hb dX3_cell_58 (by decide) ?_
  exact bX3_cell_59 X ret  _ _ _ f g v1 v2 v3 1 h (lv_sub hl [0, 1, 2, 3] rfl) hs
def sX3_cell_50 (f : Nat → Int32) (g : Nat → Nat → Int32) (v1 : Int32) (v2 : Int32) (v3 : Int32) (t1 : Int32) (t3 : Int32) : Option (Int32 × (Nat → Int32) × (Nat → Nat → Int32)) := rd (g 3) 2 t3 (fun v23 => if v23 ≤ t1 then (sX3_cell_58 f g v1 v2 v3) else (sX3_cell_59 f g v1 v2 v3 0))
set_option maxHeartbeats 4000000 in
set_option maxRecDepth 100000 in
theorem bX3_cell_50 {p : Program} {l : Launch} {e : Env} {s : State} {m : MethodId} {args : Array Value} {below : List Frame} {meth : Method} {c : Code} {Q : State → Prop} {A : Nat → Prop} {G : va_G} {cyI cyZ : ClassId} {x : Nat} {ad : Nat → Nat} (X : rh_X p s m args c cX3_cell 6 RX3 wsX3_cell G [(cyI, .int), (cyZ, .boolean)] [] A) {r' : Int32} {f' : Nat → Int32} {g' : Nat → Nat → Int32} (ret : ∀ (H : Heap) (locs : List Loc) (ls : Array Slot) (pc : Nat), narrow .int (.int r') = .int r' → decode cX3_cell pc = .ok (.ireturn, 1) → rh_W G A s H locs (mw cyI cyZ x ad f' g') → W p l e rmX3_cell s m args below meth c H locs 0 0 Q (F0 m pc ls [.int r'])) : ∀ (H : Heap) (locs : List Loc) (ls : Array Slot) (f : Nat → Int32) (g : Nat → Nat → Int32) (v1 : Int32) (v2 : Int32) (v3 : Int32) (t1 : Int32) (t3 : Int32), rh_W G A s H locs (mw cyI cyZ x ad f g) → lv_has ls 6 [(0, .ref x), (1, .int v1), (2, .int v2), (3, .int v3)] → sX3_cell_50 f g v1 v2 v3 t1 t3 = some (r', f', g') → W p l e rmX3_cell s m args below meth c H locs 0 0 Q (F0 m 50 ls [.int t3, .ref (ad 4), .int t1, .ref x]) := by
  have hx := X.1
  have hb := X.2.1
  have hown := X.2.2.2.1
  have hts := X.2.2.2.2.1
  have hK := X.2.2.2.2.2.1
  have hNN := X.2.2.2.2.2.2.1.2
  intro H locs ls f g v1 v2 v3 t1 t3 h hl hs
  unfold sX3_cell_50 at hs
  obtain ⟨i25, v23, e24, hs⟩ := rd_some hs
  refine rh_iald X h 4 0 rfl rfl i25 e24 dX3_cell_50 ?_
  refine lv_icmp_ge (tgt := 58) hx hb dX3_cell_51 (by decide) (fun c26 => ?_) (fun c26 => ?_)
  · have hs := ite_p c26 hs
    exact bX3_cell_58 X ret  _ _ _ f g v1 v2 v3 h (lv_sub hl [0, 1, 2, 3] rfl) hs
  · have hs := ite_n c26 hs
    refine lv_iconst (v := 0) hx hb dX3_cell_54 (by decide) ?_
    refine lv_goto (tgt := 59) hx hb dX3_cell_55 (by decide) ?_
    exact bX3_cell_59 X ret  _ _ _ f g v1 v2 v3 0 h (lv_sub hl [0, 1, 2, 3] rfl) hs
def sX3_cell_27 (f : Nat → Int32) (g : Nat → Nat → Int32) (v1 : Int32) (v2 : Int32) (v3 : Int32) (t0 : Int32) : Option (Int32 × (Nat → Int32) × (Nat → Nat → Int32)) := if t0 = 0 then (sX3_cell_58 f g v1 v2 v3) else (if t0 = 0 then (sX3_cell_50 f g v1 v2 v3 v2 0) else (sX3_cell_50 f g v1 v2 v3 v2 v1))
set_option maxHeartbeats 4000000 in
set_option maxRecDepth 100000 in
theorem bX3_cell_27 {p : Program} {l : Launch} {e : Env} {s : State} {m : MethodId} {args : Array Value} {below : List Frame} {meth : Method} {c : Code} {Q : State → Prop} {A : Nat → Prop} {G : va_G} {cyI cyZ : ClassId} {x : Nat} {ad : Nat → Nat} (X : rh_X p s m args c cX3_cell 6 RX3 wsX3_cell G [(cyI, .int), (cyZ, .boolean)] [] A) {r' : Int32} {f' : Nat → Int32} {g' : Nat → Nat → Int32} (ret : ∀ (H : Heap) (locs : List Loc) (ls : Array Slot) (pc : Nat), narrow .int (.int r') = .int r' → decode cX3_cell pc = .ok (.ireturn, 1) → rh_W G A s H locs (mw cyI cyZ x ad f' g') → W p l e rmX3_cell s m args below meth c H locs 0 0 Q (F0 m pc ls [.int r'])) : ∀ (H : Heap) (locs : List Loc) (ls : Array Slot) (f : Nat → Int32) (g : Nat → Nat → Int32) (v1 : Int32) (v2 : Int32) (v3 : Int32) (t0 : Int32), rh_W G A s H locs (mw cyI cyZ x ad f g) → lv_has ls 6 [(0, .ref x), (1, .int v1), (2, .int v2), (3, .int v3)] → sX3_cell_27 f g v1 v2 v3 t0 = some (r', f', g') → W p l e rmX3_cell s m args below meth c H locs 0 0 Q (F0 m 27 ls [.int t0]) := by
  have hx := X.1
  have hb := X.2.1
  have hown := X.2.2.2.1
  have hts := X.2.2.2.2.1
  have hK := X.2.2.2.2.2.1
  have hNN := X.2.2.2.2.2.2.1.2
  intro H locs ls f g v1 v2 v3 t0 h hl hs
  unfold sX3_cell_27 at hs
  refine lv_istore (lv' := [(4, .int t0), (0, .ref x), (1, .int v1), (2, .int v2), (3, .int v3)]) hx hb dX3_cell_27 hl (by decide) rfl (fun ls hl => ?_)
  refine lv_aload_n hx hb dX3_cell_29 rfl (lv_at hl 1 rfl) ?_
  refine lv_iload hx hb dX3_cell_30 (lv_at hl 0 rfl) ?_
  refine lv_if_eq (tgt := 58) hx hb dX3_cell_32 (by decide) (fun c3 => ?_) (fun c3 => ?_)
  · have hs := ite_p c3 hs
    exact bX3_cell_58 X ret  _ _ _ f g v1 v2 v3 h (lv_sub hl [1, 2, 3, 4] rfl) hs
  · have hs := ite_n c3 hs
    refine lv_iload_n hx hb dX3_cell_35 rfl (lv_at hl 3 rfl) ?_
    refine lv_aload_n hx hb dX3_cell_36 rfl (lv_at hl 1 rfl) ?_
    refine rh_get X h (v := .ref (ad 4)) iX3_cell_X3 0 6 rfl rfl (by decide) (by decide +kernel) rfl dX3_cell_37 ?_
    refine lv_iload hx hb dX3_cell_40 (lv_at hl 0 rfl) ?_
    refine lv_if_eq (tgt := 49) hx hb dX3_cell_42 (by decide) (fun c22 => ?_) (fun c22 => ?_)
    · have hs := ite_p c22 hs
      refine lv_iconst (v := 0) hx hb dX3_cell_49 (by decide) ?_
      exact bX3_cell_50 X ret  _ _ _ f g v1 v2 v3 v2 0 h (lv_sub hl [1, 2, 3, 4] rfl) hs
    · have hs := ite_n c22 hs
      refine lv_iload_n hx hb dX3_cell_45 rfl (lv_at hl 2 rfl) ?_
      refine lv_goto (tgt := 50) hx hb dX3_cell_46 (by decide) ?_
      exact bX3_cell_50 X ret  _ _ _ f g v1 v2 v3 v2 v1 h (lv_sub hl [1, 2, 3, 4] rfl) hs
def sX3_cell_26 (f : Nat → Int32) (g : Nat → Nat → Int32) (v1 : Int32) (v2 : Int32) (v3 : Int32) : Option (Int32 × (Nat → Int32) × (Nat → Nat → Int32)) := sX3_cell_27 f g v1 v2 v3 0
set_option maxHeartbeats 4000000 in
set_option maxRecDepth 100000 in
theorem bX3_cell_26 {p : Program} {l : Launch} {e : Env} {s : State} {m : MethodId} {args : Array Value} {below : List Frame} {meth : Method} {c : Code} {Q : State → Prop} {A : Nat → Prop} {G : va_G} {cyI cyZ : ClassId} {x : Nat} {ad : Nat → Nat} (X : rh_X p s m args c cX3_cell 6 RX3 wsX3_cell G [(cyI, .int), (cyZ, .boolean)] [] A) {r' : Int32} {f' : Nat → Int32} {g' : Nat → Nat → Int32} (ret : ∀ (H : Heap) (locs : List Loc) (ls : Array Slot) (pc : Nat), narrow .int (.int r') = .int r' → decode cX3_cell pc = .ok (.ireturn, 1) → rh_W G A s H locs (mw cyI cyZ x ad f' g') → W p l e rmX3_cell s m args below meth c H locs 0 0 Q (F0 m pc ls [.int r'])) : ∀ (H : Heap) (locs : List Loc) (ls : Array Slot) (f : Nat → Int32) (g : Nat → Nat → Int32) (v1 : Int32) (v2 : Int32) (v3 : Int32), rh_W G A s H locs (mw cyI cyZ x ad f g) → lv_has ls 6 [(0, .ref x), (1, .int v1), (2, .int v2), (3, .int v3)] → sX3_cell_26 f g v1 v2 v3 = some (r', f', g') → W p l e rmX3_cell s m args below meth c H locs 0 0 Q (F0 m 26 ls []) := by
  have hx := X.1
  have hb := X.2.1
  have hown := X.2.2.2.1
  have hts := X.2.2.2.2.1
  have hK := X.2.2.2.2.2.1
  have hNN := X.2.2.2.2.2.2.1.2
  intro H locs ls f g v1 v2 v3 h hl hs
  unfold sX3_cell_26 at hs
  refine lv_iconst (v := 0) hx hb dX3_cell_26 (by decide) ?_
  exact bX3_cell_27 X ret  _ _ _ f g v1 v2 v3 0 h (lv_sub hl [0, 1, 2, 3] rfl) hs
def sX3_cell_9 (f : Nat → Int32) (g : Nat → Nat → Int32) (v1 : Int32) (v2 : Int32) (v3 : Int32) : Option (Int32 × (Nat → Int32) × (Nat → Nat → Int32)) := if v3 < 0 then (sX3_cell_26 f g v1 v2 v3) else (if 3 ≤ v3 then (sX3_cell_26 f g v1 v2 v3) else (if v2 < 0 then (sX3_cell_26 f g v1 v2 v3) else (sX3_cell_27 f g v1 v2 v3 1)))
set_option maxHeartbeats 4000000 in
set_option maxRecDepth 100000 in
theorem bX3_cell_9 {p : Program} {l : Launch} {e : Env} {s : State} {m : MethodId} {args : Array Value} {below : List Frame} {meth : Method} {c : Code} {Q : State → Prop} {A : Nat → Prop} {G : va_G} {cyI cyZ : ClassId} {x : Nat} {ad : Nat → Nat} (X : rh_X p s m args c cX3_cell 6 RX3 wsX3_cell G [(cyI, .int), (cyZ, .boolean)] [] A) {r' : Int32} {f' : Nat → Int32} {g' : Nat → Nat → Int32} (ret : ∀ (H : Heap) (locs : List Loc) (ls : Array Slot) (pc : Nat), narrow .int (.int r') = .int r' → decode cX3_cell pc = .ok (.ireturn, 1) → rh_W G A s H locs (mw cyI cyZ x ad f' g') → W p l e rmX3_cell s m args below meth c H locs 0 0 Q (F0 m pc ls [.int r'])) : ∀ (H : Heap) (locs : List Loc) (ls : Array Slot) (f : Nat → Int32) (g : Nat → Nat → Int32) (v1 : Int32) (v2 : Int32) (v3 : Int32), rh_W G A s H locs (mw cyI cyZ x ad f g) → lv_has ls 6 [(0, .ref x), (1, .int v1), (2, .int v2), (3, .int v3)] → sX3_cell_9 f g v1 v2 v3 = some (r', f', g') → W p l e rmX3_cell s m args below meth c H locs 0 0 Q (F0 m 9 ls []) := by
  have hx := X.1
  have hb := X.2.1
  have hown := X.2.2.2.1
  have hts := X.2.2.2.2.1
  have hK := X.2.2.2.2.2.1
  have hNN := X.2.2.2.2.2.2.1.2
  intro H locs ls f g v1 v2 v3 h hl hs
  unfold sX3_cell_9 at hs
  refine lv_iload_n hx hb dX3_cell_9 rfl (lv_at hl 3 rfl) ?_
  refine lv_if_lt (tgt := 26) hx hb dX3_cell_10 (by decide) (fun c2 => ?_) (fun c2 => ?_)
  · have hs := ite_p c2 hs
    exact bX3_cell_26 X ret  _ _ _ f g v1 v2 v3 h (lv_sub hl [0, 1, 2, 3] rfl) hs
  · have hs := ite_n c2 hs
    refine lv_iload_n hx hb dX3_cell_13 rfl (lv_at hl 3 rfl) ?_
    refine lv_iconst (v := 3) hx hb dX3_cell_14 (by decide) ?_
    refine lv_icmp_ge (tgt := 26) hx hb dX3_cell_15 (by decide) (fun c27 => ?_) (fun c27 => ?_)
    · have hs := ite_p c27 hs
      exact bX3_cell_26 X ret  _ _ _ f g v1 v2 v3 h (lv_sub hl [0, 1, 2, 3] rfl) hs
    · have hs := ite_n c27 hs
      refine lv_iload_n hx hb dX3_cell_18 rfl (lv_at hl 2 rfl) ?_
      refine lv_if_lt (tgt := 26) hx hb dX3_cell_19 (by decide) (fun c28 => ?_) (fun c28 => ?_)
      · have hs := ite_p c28 hs
        exact bX3_cell_26 X ret  _ _ _ f g v1 v2 v3 h (lv_sub hl [0, 1, 2, 3] rfl) hs
      · have hs := ite_n c28 hs
        refine lv_iconst (v := 1) hx hb dX3_cell_22 (by decide) ?_
        refine lv_goto (tgt := 27) hx hb dX3_cell_23 (by decide) ?_
        exact bX3_cell_27 X ret  _ _ _ f g v1 v2 v3 1 h (lv_sub hl [0, 1, 2, 3] rfl) hs
def sX3_cell (f : Nat → Int32) (g : Nat → Nat → Int32) (p1 : Int32) (p2 : Int32) (p3 : Int32) : Option (Int32 × (Nat → Int32) × (Nat → Nat → Int32)) := if p1 = 0 then (sX3_cell_9 f g p1 p2 p3) else (if p1 = 1 then (sX3_cell_9 f g p1 p2 p3) else (sX3_cell_26 f g p1 p2 p3))
set_option maxHeartbeats 4000000 in
set_option maxRecDepth 100000 in
theorem bX3_cell {p : Program} {l : Launch} {e : Env} {s : State} {m : MethodId} {args : Array Value} {below : List Frame} {meth : Method} {c : Code} {Q : State → Prop} {A : Nat → Prop} {G : va_G} {cyI cyZ : ClassId} {x : Nat} {ad : Nat → Nat} (X : rh_X p s m args c cX3_cell 6 RX3 wsX3_cell G [(cyI, .int), (cyZ, .boolean)] [] A) {r' : Int32} {f' : Nat → Int32} {g' : Nat → Nat → Int32} (ret : ∀ (H : Heap) (locs : List Loc) (ls : Array Slot) (pc : Nat), narrow .int (.int r') = .int r' → decode cX3_cell pc = .ok (.ireturn, 1) → rh_W G A s H locs (mw cyI cyZ x ad f' g') → W p l e rmX3_cell s m args below meth c H locs 0 0 Q (F0 m pc ls [.int r'])) : ∀ (H : Heap) (locs : List Loc) (ls : Array Slot) (f : Nat → Int32) (g : Nat → Nat → Int32) (p1 : Int32) (p2 : Int32) (p3 : Int32), rh_W G A s H locs (mw cyI cyZ x ad f g) → lv_has ls 6 [(0, .ref x), (1, .int p1), (2, .int p2), (3, .int p3)] → sX3_cell f g p1 p2 p3 = some (r', f', g') → W p l e rmX3_cell s m args below meth c H locs 0 0 Q (F0 m 0 ls []) := by
  have hx := X.1
  have hb := X.2.1
  have hown := X.2.2.2.1
  have hts := X.2.2.2.2.1
  have hK := X.2.2.2.2.2.1
  have hNN := X.2.2.2.2.2.2.1.2
  intro H locs ls f g p1 p2 p3 h hl hs
  unfold sX3_cell at hs
  refine lv_iload_n hx hb dX3_cell_0 rfl (lv_at hl 1 rfl) ?_
  refine lv_if_eq (tgt := 9) hx hb dX3_cell_1 (by decide) (fun c1 => ?_) (fun c1 => ?_)
  · have hs := ite_p c1 hs
    exact bX3_cell_9 X ret  _ _ _ f g p1 p2 p3 h (lv_sub hl [0, 1, 2, 3] rfl) hs
  · have hs := ite_n c1 hs
    refine lv_iload_n hx hb dX3_cell_4 rfl (lv_at hl 1 rfl) ?_
    refine lv_iconst (v := 1) hx hb dX3_cell_5 (by decide) ?_
    refine lv_icmp_ne (tgt := 26) hx hb dX3_cell_6 (by decide) (fun c29 => ?_) (fun c29 => ?_)
    · have hs := ite_n c29 hs
      exact bX3_cell_26 X ret  _ _ _ f g p1 p2 p3 h (lv_sub hl [0, 1, 2, 3] rfl) hs
    · have hs := ite_p c29 hs
      exact bX3_cell_9 X ret  _ _ _ f g p1 p2 p3 h (lv_sub hl [0, 1, 2, 3] rfl) hs
theorem kX3_cell (l : Launch) (G : va_G) {cyI cyZ : ClassId} {x : Nat} {ad : Nat → Nat} {f : Nat → Int32} {g : Nat → Nat → Int32} {p1 : Int32} {p2 : Int32} {p3 : Int32} {r' : Int32} {f' : Nat → Int32} {g' : Nat → Nat → Int32} (hs : sX3_cell f g p1 p2 p3 = some (r', f', g')) : rh_Mi l yX3_cell wsX3_cell rmX3_cell G [(cyI, .int), (cyZ, .boolean)] [] (mw cyI cyZ x ad f g) [.ref x, .int p1, .int p2, .int p3] r' (mw cyI cyZ x ad f' g') :=
  rh_ofi (by decide +kernel) rfl (Nat.le_of_ble_eq_true rfl) (fun p e s m below meth c A Q X ret ls hl h => bX3_cell X ret _ _ ls f g p1 p2 p3 h hl hs)
abbrev rmX3_entry : Room := { frames := 0, cells := 0, slots := 0, locals := 0 }
set_option maxRecDepth 100000 in
theorem iX3_entry_X3 : ∀ w ∈ u_ws RX3 TX3 22, w ∈ wsX3_entry := by decide +kernel
def sX3_entry_27 (f : Nat → Int32) (g : Nat → Nat → Int32) (v1 : Int32) (v2 : Int32) (t1 : Int32) : Option (Int32 × (Nat → Int32) × (Nat → Nat → Int32)) := if t1 ≤ 0 then (if v2 = 0 then (rd (g 6) 4096 v1 (fun v7 => some ((v7, (upd f 0 t1), g)))) else (rd (g 7) 4096 v1 (fun v4 => some ((v4, (upd f 0 t1), g))))) else (some ((0, (upd f 0 t1), g)))
set_option maxHeartbeats 4000000 in
set_option maxRecDepth 100000 in
theorem bX3_entry_27 {p : Program} {l : Launch} {e : Env} {s : State} {m : MethodId} {args : Array Value} {below : List Frame} {meth : Method} {c : Code} {Q : State → Prop} {A : Nat → Prop} {G : va_G} {cyI cyZ : ClassId} {x : Nat} {ad : Nat → Nat} (X : rh_X p s m args c cX3_entry 3 RX3 wsX3_entry G [(cyI, .int), (cyZ, .boolean)] [] A) {r' : Int32} {f' : Nat → Int32} {g' : Nat → Nat → Int32} (ret : ∀ (H : Heap) (locs : List Loc) (ls : Array Slot) (pc : Nat), narrow .int (.int r') = .int r' → decode cX3_entry pc = .ok (.ireturn, 1) → rh_W G A s H locs (mw cyI cyZ x ad f' g') → W p l e rmX3_entry s m args below meth c H locs 0 0 Q (F0 m pc ls [.int r'])) : ∀ (H : Heap) (locs : List Loc) (ls : Array Slot) (f : Nat → Int32) (g : Nat → Nat → Int32) (v1 : Int32) (v2 : Int32) (t1 : Int32), rh_W G A s H locs (mw cyI cyZ x ad f g) → lv_has ls 3 [(0, .ref x), (1, .int v1), (2, .int v2)] → sX3_entry_27 f g v1 v2 t1 = some (r', f', g') → W p l e rmX3_entry s m args below meth c H locs 0 0 Q (F0 m 27 ls [.int t1, .ref x]) := by
  have hx := X.1
  have hb := X.2.1
  have hown := X.2.2.2.1
  have hts := X.2.2.2.2.1
  have hK := X.2.2.2.2.2.1
  have hNN := X.2.2.2.2.2.2.1.2
  intro H locs ls f g v1 v2 t1 h hl hs
  unfold sX3_entry_27 at hs
  refine rh_put X h iX3_entry_X3 tyX3 tyX3_ok nmX3 0 0 rfl rfl (by decide) (by decide +kernel) rfl rfl rfl (Nat.le_of_ble_eq_true rfl) dX3_entry_27 (fun H locs h => ?_)
  have h : rh_W G A s H locs (mw cyI cyZ x ad (upd f 0 t1) g) := mp_0 h
  refine lv_aload_n hx hb dX3_entry_30 rfl (lv_at hl 0 rfl) ?_
  refine rh_get X h (v := .int t1) iX3_entry_X3 0 0 rfl rfl (by decide) (by decide +kernel) rfl dX3_entry_31 ?_
  refine lv_if_le (tgt := 41) hx hb dX3_entry_34 (by decide) (fun c2 => ?_) (fun c2 => ?_)
  · have hs := ite_p c2 hs
    refine lv_iload_n hx hb dX3_entry_41 rfl (lv_at hl 2 rfl) ?_
    refine lv_if_ne (tgt := 54) hx hb dX3_entry_42 (by decide) (fun c3 => ?_) (fun c3 => ?_)
    · have hs := ite_n c3 hs
      refine lv_aload_n hx hb dX3_entry_54 rfl (lv_at hl 0 rfl) ?_
      refine rh_get X h (v := .ref (ad 8)) iX3_entry_X3 0 15 rfl rfl (by decide) (by decide +kernel) rfl dX3_entry_55 ?_
      refine lv_iload_n hx hb dX3_entry_58 rfl (lv_at hl 1 rfl) ?_
      obtain ⟨i6, v4, e5, hs⟩ := rd_some hs
      refine rh_iald X h 8 0 rfl rfl i6 e5 dX3_entry_59 ?_
      cases hs
      exact ret _ _ _ _ rfl dX3_entry_60 h
    · have hs := ite_p c3 hs
      refine lv_aload_n hx hb dX3_entry_45 rfl (lv_at hl 0 rfl) ?_
      refine rh_get X h (v := .ref (ad 7)) iX3_entry_X3 0 14 rfl rfl (by decide) (by decide +kernel) rfl dX3_entry_46 ?_
      refine lv_iload_n hx hb dX3_entry_49 rfl (lv_at hl 1 rfl) ?_
      obtain ⟨i9, v7, e8, hs⟩ := rd_some hs
      refine rh_iald X h 7 0 rfl rfl i9 e8 dX3_entry_50 ?_
      refine lv_goto (tgt := 60) hx hb dX3_entry_51 (by decide) ?_
      cases hs
      exact ret _ _ _ _ rfl dX3_entry_60 h
  · have hs := ite_n c2 hs
    refine lv_iconst (v := 0) hx hb dX3_entry_37 (by decide) ?_
    refine lv_goto (tgt := 60) hx hb dX3_entry_38 (by decide) ?_
    cases hs
    exact ret _ _ _ _ rfl dX3_entry_60 h
def sX3_entry_26 (f : Nat → Int32) (g : Nat → Nat → Int32) (v1 : Int32) (v2 : Int32) : Option (Int32 × (Nat → Int32) × (Nat → Nat → Int32)) := sX3_entry_27 f g v1 v2 1
set_option maxHeartbeats 4000000 in
set_option maxRecDepth 100000 in
theorem bX3_entry_26 {p : Program} {l : Launch} {e : Env} {s : State} {m : MethodId} {args : Array Value} {below : List Frame} {meth : Method} {c : Code} {Q : State → Prop} {A : Nat → Prop} {G : va_G} {cyI cyZ : ClassId} {x : Nat} {ad : Nat → Nat} (X : rh_X p s m args c cX3_entry 3 RX3 wsX3_entry G [(cyI, .int), (cyZ, .boolean)] [] A) {r' : Int32} {f' : Nat → Int32} {g' : Nat → Nat → Int32} (ret : ∀ (H : Heap) (locs : List Loc) (ls : Array Slot) (pc : Nat), narrow .int (.int r') = .int r' → decode cX3_entry pc = .ok (.ireturn, 1) → rh_W G A s H locs (mw cyI cyZ x ad f' g') → W p l e rmX3_entry s m args below meth c H locs 0 0 Q (F0 m pc ls [.int r'])) : ∀ (H : Heap) (locs : List Loc) (ls : Array Slot) (f : Nat → Int32) (g : Nat → Nat → Int32) (v1 : Int32) (v2 : Int32), rh_W G A s H locs (mw cyI cyZ x ad f g) → lv_has ls 3 [(0, .ref x), (1, .int v1), (2, .int v2)] → sX3_entry_26 f g v1 v2 = some (r', f', g') → W p l e rmX3_entry s m args below meth c H locs 0 0 Q (F0 m 26 ls [.ref x]) := by
  have hx := X.1
  have hb := X.2.1
  have hown := X.2.2.2.1
  have hts := X.2.2.2.2.1
  have hK := X.2.2.2.2.2.1
  have hNN := X.2.2.2.2.2.2.1.2
  intro H locs ls f g v1 v2 h hl hs
  unfold sX3_entry_26 at hs
  refine lv_iconst (v := 1) hx hb dX3_entry_26 (by decide) ?_
  exact bX3_entry_27 X ret  _ _ _ f g v1 v2 1 h (lv_sub hl [0, 1, 2] rfl) hs
def sX3_entry (f : Nat → Int32) (g : Nat → Nat → Int32) (p1 : Int32) (p2 : Int32) : Option (Int32 × (Nat → Int32) × (Nat → Nat → Int32)) := if p1 < 0 then (sX3_entry_26 f g p1 p2) else (if (f 6) ≤ p1 then (sX3_entry_26 f g p1 p2) else (if p2 < 0 then (sX3_entry_26 f g p1 p2) else (if 2 ≤ p2 then (sX3_entry_26 f g p1 p2) else (sX3_entry_27 f g p1 p2 0))))
set_option maxHeartbeats 4000000 in
set_option maxRecDepth 100000 in
theorem bX3_entry {p : Program} {l : Launch} {e : Env} {s : State} {m : MethodId} {args : Array Value} {below : List Frame} {meth : Method} {c : Code} {Q : State → Prop} {A : Nat → Prop} {G : va_G} {cyI cyZ : ClassId} {x : Nat} {ad : Nat → Nat} (X : rh_X p s m args c cX3_entry 3 RX3 wsX3_entry G [(cyI, .int), (cyZ, .boolean)] [] A) {r' : Int32} {f' : Nat → Int32} {g' : Nat → Nat → Int32} (ret : ∀ (H : Heap) (locs : List Loc) (ls : Array Slot) (pc : Nat), narrow .int (.int r') = .int r' → decode cX3_entry pc = .ok (.ireturn, 1) → rh_W G A s H locs (mw cyI cyZ x ad f' g') → W p l e rmX3_entry s m args below meth c H locs 0 0 Q (F0 m pc ls [.int r'])) : ∀ (H : Heap) (locs : List Loc) (ls : Array Slot) (f : Nat → Int32) (g : Nat → Nat → Int32) (p1 : Int32) (p2 : Int32), rh_W G A s H locs (mw cyI cyZ x ad f g) → lv_has ls 3 [(0, .ref x), (1, .int p1), (2, .int p2)] → sX3_entry f g p1 p2 = some (r', f', g') → W p l e rmX3_entry s m args below meth c H locs 0 0 Q (F0 m 0 ls []) := by
  have hx := X.1
  have hb := X.2.1
  have hown := X.2.2.2.1
  have hts := X.2.2.2.2.1
  have hK := X.2.2.2.2.2.1
  have hNN := X.2.2.2.2.2.2.1.2
  intro H locs ls f g p1 p2 h hl hs
  unfold sX3_entry at hs
  refine lv_aload_n hx hb dX3_entry_0 rfl (lv_at hl 0 rfl) ?_
  refine lv_iload_n hx hb dX3_entry_1 rfl (lv_at hl 1 rfl) ?_
  refine lv_if_lt (tgt := 26) hx hb dX3_entry_2 (by decide) (fun c1 => ?_) (fun c1 => ?_)
  · have hs := ite_p c1 hs
    exact bX3_entry_26 X ret  _ _ _ f g p1 p2 h (lv_sub hl [0, 1, 2] rfl) hs
  · have hs := ite_n c1 hs
    refine lv_iload_n hx hb dX3_entry_5 rfl (lv_at hl 1 rfl) ?_
    refine lv_aload_n hx hb dX3_entry_6 rfl (lv_at hl 0 rfl) ?_
    refine rh_get X h (v := .int (f 6)) iX3_entry_X3 0 12 rfl rfl (by decide) (by decide +kernel) rfl dX3_entry_7 ?_
    refine lv_icmp_ge (tgt := 26) hx hb dX3_entry_10 (by decide) (fun c10 => ?_) (fun c10 => ?_)
    · have hs := ite_p c10 hs
      exact bX3_entry_26 X ret  _ _ _ f g p1 p2 h (lv_sub hl [0, 1, 2] rfl) hs
    · have hs := ite_n c10 hs
      refine lv_iload_n hx hb dX3_entry_13 rfl (lv_at hl 2 rfl) ?_
      refine lv_if_lt (tgt := 26) hx hb dX3_entry_14 (by decide) (fun c11 => ?_) (fun c11 => ?_)
      · have hs := ite_p c11 hs
        exact bX3_entry_26 X ret  _ _ _ f g p1 p2 h (lv_sub hl [0, 1, 2] rfl) hs
      · have hs := ite_n c11 hs
        refine lv_iload_n hx hb dX3_entry_17 rfl (lv_at hl 2 rfl) ?_
        refine lv_iconst (v := 2) hx hb dX3_entry_18 (by decide) ?_
        refine lv_icmp_ge (tgt := 26) hx hb dX3_entry_19 (by decide) (fun c12 => ?_) (fun c12 => ?_)
        · have hs := ite_p c12 hs
          exact bX3_entry_26 X ret  _ _ _ f g p1 p2 h (lv_sub hl [0, 1, 2] rfl) hs
        · have hs := ite_n c12 hs
          refine lv_iconst (v := 0) hx hb dX3_entry_22 (by decide) ?_
          refine lv_goto (tgt := 27) hx hb dX3_entry_23 (by decide) ?_
          exact bX3_entry_27 X ret  _ _ _ f g p1 p2 0 h (lv_sub hl [0, 1, 2] rfl) hs
theorem kX3_entry (l : Launch) (G : va_G) {cyI cyZ : ClassId} {x : Nat} {ad : Nat → Nat} {f : Nat → Int32} {g : Nat → Nat → Int32} {p1 : Int32} {p2 : Int32} {r' : Int32} {f' : Nat → Int32} {g' : Nat → Nat → Int32} (hs : sX3_entry f g p1 p2 = some (r', f', g')) : rh_Mi l yX3_entry wsX3_entry rmX3_entry G [(cyI, .int), (cyZ, .boolean)] [] (mw cyI cyZ x ad f g) [.ref x, .int p1, .int p2] r' (mw cyI cyZ x ad f' g') :=
  rh_ofi (by decide +kernel) rfl (Nat.le_of_ble_eq_true rfl) (fun p e s m below meth c A Q X ret ls hl h => bX3_entry X ret _ _ ls f g p1 p2 h hl hs)
abbrev rmX3_count : Room := { frames := 1, cells := 0, slots := 0, locals := 20 }
set_option maxRecDepth 100000 in
theorem iX3_count_X3 : ∀ w ∈ u_ws RX3 TX3 22, w ∈ wsX3_count := by decide +kernel
def sX3_count (f : Nat → Int32) (g : Nat → Nat → Int32) (p1 : Int32) : Option (Int32 × (Nat → Int32) × (Nat → Nat → Int32)) := if p1 = 0 then (some ((f 3, (upd f 0 0), g))) else if p1 = 1 then (if (f 4) = 0 then (some ((0, (upd f 0 0), g))) else (some ((1, (upd f 0 0), g)))) else if p1 = 2 then (rd (g 3) 2 (f 3) (fun v5 => some ((v5, (upd f 0 0), g)))) else if p1 = 3 then (bR (sX3_other (upd f 0 0) g) (fun r9 => rd (g 3) 2 r9 (fun v11 => some ((v11, (upd f 0 0), g))))) else if p1 = 4 then (some ((f 5, (upd f 0 0), g))) else if p1 = 5 then (some ((f 6, (upd f 0 0), g))) else if p1 = 6 then (some ((f 7, (upd f 0 0), g))) else if p1 = 7 then (some ((f 8, (upd f 0 0), g))) else if p1 = 8 then (some ((f 9, (upd f 0 0), g))) else if p1 = 9 then (some ((f 10, (upd f 0 0), g))) else if p1 = 10 then (some ((f 11, (upd f 0 0), g))) else if p1 = 11 then (some ((f 12, (upd f 0 0), g))) else if p1 = 12 then (some ((f 1, (upd f 0 0), g))) else some (((-1), (upd f 0 0), g))
set_option maxHeartbeats 4000000 in
set_option maxRecDepth 100000 in
theorem bX3_count {p : Program} {l : Launch} {e : Env} {s : State} {m : MethodId} {args : Array Value} {below : List Frame} {meth : Method} {c : Code} {Q : State → Prop} {A : Nat → Prop} {G : va_G} {cyI cyZ : ClassId} {x : Nat} {ad : Nat → Nat} (X : rh_X p s m args c cX3_count 2 RX3 wsX3_count G [(cyI, .int), (cyZ, .boolean)] [] A) {r' : Int32} {f' : Nat → Int32} {g' : Nat → Nat → Int32} (ret : ∀ (H : Heap) (locs : List Loc) (ls : Array Slot) (pc : Nat), narrow .int (.int r') = .int r' → decode cX3_count pc = .ok (.ireturn, 1) → rh_W G A s H locs (mw cyI cyZ x ad f' g') → W p l e rmX3_count s m args below meth c H locs 0 0 Q (F0 m pc ls [.int r'])) : ∀ (H : Heap) (locs : List Loc) (ls : Array Slot) (f : Nat → Int32) (g : Nat → Nat → Int32) (p1 : Int32), rh_W G A s H locs (mw cyI cyZ x ad f g) → lv_has ls 2 [(0, .ref x), (1, .int p1)] → sX3_count f g p1 = some (r', f', g') → W p l e rmX3_count s m args below meth c H locs 0 0 Q (F0 m 0 ls []) := by
  have hx := X.1
  have hb := X.2.1
  have hown := X.2.2.2.1
  have hts := X.2.2.2.2.1
  have hK := X.2.2.2.2.2.1
  have hNN := X.2.2.2.2.2.2.1.2
  intro H locs ls f g p1 h hl hs
  unfold sX3_count at hs
  refine lv_aload_n hx hb dX3_count_0 rfl (lv_at hl 0 rfl) ?_
  refine lv_iconst (v := 0) hx hb dX3_count_1 (by decide) ?_
  refine rh_put X h iX3_count_X3 tyX3 tyX3_ok nmX3 0 0 rfl rfl (by decide) (by decide +kernel) rfl rfl rfl (Nat.le_of_ble_eq_true rfl) dX3_count_2 (fun H locs h => ?_)
  have h : rh_W G A s H locs (mw cyI cyZ x ad (upd f 0 0) g) := mp_0 h
  refine lv_iload_n hx hb dX3_count_5 rfl (lv_at hl 1 rfl) ?_
  by_cases c1 : p1 = 0
  · have hs := ite_p c1 hs
    refine lv_tableIn (tgt := 72) hx hb dX3_count_6 (by rw [c1]; decide) (by rw [c1]; decide) (by rw [c1]; rfl) (by decide) ?_
    refine lv_aload_n hx hb dX3_count_72 rfl (lv_at hl 0 rfl) ?_
    refine rh_get X h (v := .int (f 3)) iX3_count_X3 0 7 rfl rfl (by decide) (by decide +kernel) rfl dX3_count_73 ?_
    cases hs
    exact ret _ _ _ _ rfl dX3_count_76 h
  have hs := ite_n c1 hs
  by_cases c2 : p1 = 1
  · have hs := ite_p c2 hs
    refine lv_tableIn (tgt := 77) hx hb dX3_count_6 (by rw [c2]; decide) (by rw [c2]; decide) (by rw [c2]; rfl) (by decide) ?_
    refine lv_aload_n hx hb dX3_count_77 rfl (lv_at hl 0 rfl) ?_
    refine rh_get X h (v := .int (f 4)) iX3_count_X3 0 10 rfl rfl (by decide) (by decide +kernel) rfl dX3_count_78 ?_
    refine lv_if_eq (tgt := 88) hx hb dX3_count_81 (by decide) (fun c3 => ?_) (fun c3 => ?_)
    · have hs := ite_p c3 hs
      refine lv_iconst (v := 0) hx hb dX3_count_88 (by decide) ?_
      cases hs
      exact ret _ _ _ _ rfl dX3_count_89 h
    · have hs := ite_n c3 hs
      refine lv_iconst (v := 1) hx hb dX3_count_84 (by decide) ?_
      refine lv_goto (tgt := 89) hx hb dX3_count_85 (by decide) ?_
      cases hs
      exact ret _ _ _ _ rfl dX3_count_89 h
  have hs := ite_n c2 hs
  by_cases c4 : p1 = 2
  · have hs := ite_p c4 hs
    refine lv_tableIn (tgt := 90) hx hb dX3_count_6 (by rw [c4]; decide) (by rw [c4]; decide) (by rw [c4]; rfl) (by decide) ?_
    refine lv_aload_n hx hb dX3_count_90 rfl (lv_at hl 0 rfl) ?_
    refine rh_get X h (v := .ref (ad 4)) iX3_count_X3 0 6 rfl rfl (by decide) (by decide +kernel) rfl dX3_count_91 ?_
    refine lv_aload_n hx hb dX3_count_94 rfl (lv_at hl 0 rfl) ?_
    refine rh_get X h (v := .int (f 3)) iX3_count_X3 0 7 rfl rfl (by decide) (by decide +kernel) rfl dX3_count_95 ?_
    obtain ⟨i7, v5, e6, hs⟩ := rd_some hs
    refine rh_iald X h 4 0 rfl rfl i7 e6 dX3_count_98 ?_
    cases hs
    exact ret _ _ _ _ rfl dX3_count_99 h
  have hs := ite_n c4 hs
  by_cases c8 : p1 = 3
  · have hs := ite_p c8 hs
    refine lv_tableIn (tgt := 100) hx hb dX3_count_6 (by rw [c8]; decide) (by rw [c8]; decide) (by rw [c8]; rfl) (by decide) ?_
    refine lv_aload_n hx hb dX3_count_100 rfl (lv_at hl 0 rfl) ?_
    refine rh_get X h (v := .ref (ad 4)) iX3_count_X3 0 6 rfl rfl (by decide) (by decide +kernel) rfl dX3_count_101 ?_
    refine lv_aload_n hx hb dX3_count_104 rfl (lv_at hl 0 rfl) ?_
    obtain ⟨r9, h10, hs⟩ := bR_some hs
    refine rh_Vi X h (kX3_other l G (cyI := cyI) (cyZ := cyZ) (x := x) (ad := ad) h10) (cwV 0 hts gX3_count_X3_other rfl rfl rfl (by decide +kernel) ⟨Nat.le_of_ble_eq_true rfl, Nat.le_of_ble_eq_true rfl⟩) (va_recv hK h.1 (ci := 3) (q0 := 0) rfl rfl) rfl hl.1 rfl (Nat.le_of_ble_eq_true rfl) dX3_count_105 ⟨Nat.zero_le _, Nat.zero_le _⟩ (fun H locs h => ?_)
    obtain ⟨i13, v11, e12, hs⟩ := rd_some hs
    refine rh_iald X h 4 0 rfl rfl i13 e12 dX3_count_108 ?_
    cases hs
    exact ret _ _ _ _ rfl dX3_count_109 h
  have hs := ite_n c8 hs
  by_cases c14 : p1 = 4
  · have hs := ite_p c14 hs
    refine lv_tableIn (tgt := 110) hx hb dX3_count_6 (by rw [c14]; decide) (by rw [c14]; decide) (by rw [c14]; rfl) (by decide) ?_
    refine lv_aload_n hx hb dX3_count_110 rfl (lv_at hl 0 rfl) ?_
    refine rh_get X h (v := .int (f 5)) iX3_count_X3 0 11 rfl rfl (by decide) (by decide +kernel) rfl dX3_count_111 ?_
    cases hs
    exact ret _ _ _ _ rfl dX3_count_114 h
  have hs := ite_n c14 hs
  by_cases c15 : p1 = 5
  · have hs := ite_p c15 hs
    refine lv_tableIn (tgt := 115) hx hb dX3_count_6 (by rw [c15]; decide) (by rw [c15]; decide) (by rw [c15]; rfl) (by decide) ?_
    refine lv_aload_n hx hb dX3_count_115 rfl (lv_at hl 0 rfl) ?_
    refine rh_get X h (v := .int (f 6)) iX3_count_X3 0 12 rfl rfl (by decide) (by decide +kernel) rfl dX3_count_116 ?_
    cases hs
    exact ret _ _ _ _ rfl dX3_count_119 h
  have hs := ite_n c15 hs
  by_cases c16 : p1 = 6
  · have hs := ite_p c16 hs
    refine lv_tableIn (tgt := 120) hx hb dX3_count_6 (by rw [c16]; decide) (by rw [c16]; decide) (by rw [c16]; rfl) (by decide) ?_
    refine lv_aload_n hx hb dX3_count_120 rfl (lv_at hl 0 rfl) ?_
    refine rh_get X h (v := .int (f 7)) iX3_count_X3 0 13 rfl rfl (by decide) (by decide +kernel) rfl dX3_count_121 ?_
    cases hs
    exact ret _ _ _ _ rfl dX3_count_124 h
  have hs := ite_n c16 hs
  by_cases c17 : p1 = 7
  · have hs := ite_p c17 hs
    refine lv_tableIn (tgt := 125) hx hb dX3_count_6 (by rw [c17]; decide) (by rw [c17]; decide) (by rw [c17]; rfl) (by decide) ?_
    refine lv_aload_n hx hb dX3_count_125 rfl (lv_at hl 0 rfl) ?_
    refine rh_get X h (v := .int (f 8)) iX3_count_X3 0 16 rfl rfl (by decide) (by decide +kernel) rfl dX3_count_126 ?_
    cases hs
    exact ret _ _ _ _ rfl dX3_count_129 h
  have hs := ite_n c17 hs
  by_cases c18 : p1 = 8
  · have hs := ite_p c18 hs
    refine lv_tableIn (tgt := 130) hx hb dX3_count_6 (by rw [c18]; decide) (by rw [c18]; decide) (by rw [c18]; rfl) (by decide) ?_
    refine lv_aload_n hx hb dX3_count_130 rfl (lv_at hl 0 rfl) ?_
    refine rh_get X h (v := .int (f 9)) iX3_count_X3 0 17 rfl rfl (by decide) (by decide +kernel) rfl dX3_count_131 ?_
    cases hs
    exact ret _ _ _ _ rfl dX3_count_134 h
  have hs := ite_n c18 hs
  by_cases c19 : p1 = 9
  · have hs := ite_p c19 hs
    refine lv_tableIn (tgt := 135) hx hb dX3_count_6 (by rw [c19]; decide) (by rw [c19]; decide) (by rw [c19]; rfl) (by decide) ?_
    refine lv_aload_n hx hb dX3_count_135 rfl (lv_at hl 0 rfl) ?_
    refine rh_get X h (v := .int (f 10)) iX3_count_X3 0 18 rfl rfl (by decide) (by decide +kernel) rfl dX3_count_136 ?_
    cases hs
    exact ret _ _ _ _ rfl dX3_count_139 h
  have hs := ite_n c19 hs
  by_cases c20 : p1 = 10
  · have hs := ite_p c20 hs
    refine lv_tableIn (tgt := 140) hx hb dX3_count_6 (by rw [c20]; decide) (by rw [c20]; decide) (by rw [c20]; rfl) (by decide) ?_
    refine lv_aload_n hx hb dX3_count_140 rfl (lv_at hl 0 rfl) ?_
    refine rh_get X h (v := .int (f 11)) iX3_count_X3 0 19 rfl rfl (by decide) (by decide +kernel) rfl dX3_count_141 ?_
    cases hs
    exact ret _ _ _ _ rfl dX3_count_144 h
  have hs := ite_n c20 hs
  by_cases c21 : p1 = 11
  · have hs := ite_p c21 hs
    refine lv_tableIn (tgt := 145) hx hb dX3_count_6 (by rw [c21]; decide) (by rw [c21]; decide) (by rw [c21]; rfl) (by decide) ?_
    refine lv_aload_n hx hb dX3_count_145 rfl (lv_at hl 0 rfl) ?_
    refine rh_get X h (v := .int (f 12)) iX3_count_X3 0 20 rfl rfl (by decide) (by decide +kernel) rfl dX3_count_146 ?_
    cases hs
    exact ret _ _ _ _ rfl dX3_count_149 h
  have hs := ite_n c21 hs
  by_cases c22 : p1 = 12
  · have hs := ite_p c22 hs
    refine lv_tableIn (tgt := 150) hx hb dX3_count_6 (by rw [c22]; decide) (by rw [c22]; decide) (by rw [c22]; rfl) (by decide) ?_
    refine lv_aload_n hx hb dX3_count_150 rfl (lv_at hl 0 rfl) ?_
    refine rh_get X h (v := .int (f 1)) iX3_count_X3 0 1 rfl rfl (by decide) (by decide +kernel) rfl dX3_count_151 ?_
    cases hs
    exact ret _ _ _ _ rfl dX3_count_154 h
  have hs := ite_n c22 hs
  have ec1 : (p1).toInt ≠ 0 := fun e9 => c1 (Int32.toInt_inj.mp (e9.trans (by decide)))
  have ec2 : (p1).toInt ≠ 1 := fun e9 => c2 (Int32.toInt_inj.mp (e9.trans (by decide)))
  have ec4 : (p1).toInt ≠ 2 := fun e9 => c4 (Int32.toInt_inj.mp (e9.trans (by decide)))
  have ec8 : (p1).toInt ≠ 3 := fun e9 => c8 (Int32.toInt_inj.mp (e9.trans (by decide)))
  have ec14 : (p1).toInt ≠ 4 := fun e9 => c14 (Int32.toInt_inj.mp (e9.trans (by decide)))
  have ec15 : (p1).toInt ≠ 5 := fun e9 => c15 (Int32.toInt_inj.mp (e9.trans (by decide)))
  have ec16 : (p1).toInt ≠ 6 := fun e9 => c16 (Int32.toInt_inj.mp (e9.trans (by decide)))
  have ec17 : (p1).toInt ≠ 7 := fun e9 => c17 (Int32.toInt_inj.mp (e9.trans (by decide)))
  have ec18 : (p1).toInt ≠ 8 := fun e9 => c18 (Int32.toInt_inj.mp (e9.trans (by decide)))
  have ec19 : (p1).toInt ≠ 9 := fun e9 => c19 (Int32.toInt_inj.mp (e9.trans (by decide)))
  have ec20 : (p1).toInt ≠ 10 := fun e9 => c20 (Int32.toInt_inj.mp (e9.trans (by decide)))
  have ec21 : (p1).toInt ≠ 11 := fun e9 => c21 (Int32.toInt_inj.mp (e9.trans (by decide)))
  have ec22 : (p1).toInt ≠ 12 := fun e9 => c22 (Int32.toInt_inj.mp (e9.trans (by decide)))
  refine lv_tableOut (tgt := 155) hx hb dX3_count_6 (by omega) (by decide) ?_
  refine lv_iconst (v := (-1)) hx hb dX3_count_155 (by decide) ?_
  cases hs
  exact ret _ _ _ _ rfl dX3_count_156 h
theorem kX3_count (l : Launch) (G : va_G) {cyI cyZ : ClassId} {x : Nat} {ad : Nat → Nat} {f : Nat → Int32} {g : Nat → Nat → Int32} {p1 : Int32} {r' : Int32} {f' : Nat → Int32} {g' : Nat → Nat → Int32} (hs : sX3_count f g p1 = some (r', f', g')) : rh_Mi l yX3_count wsX3_count rmX3_count G [(cyI, .int), (cyZ, .boolean)] [] (mw cyI cyZ x ad f g) [.ref x, .int p1] r' (mw cyI cyZ x ad f' g') :=
  rh_ofi (by decide +kernel) rfl (Nat.le_of_ble_eq_true rfl) (fun p e s m below meth c A Q X ret ls hl h => bX3_count X ret _ _ ls f g p1 h hl hs)
abbrev rmX3_alloc : Room := { frames := 7, cells := 0, slots := 0, locals := 157 }
set_option maxRecDepth 100000 in
theorem iX3_alloc_X3 : ∀ w ∈ u_ws RX3 TX3 22, w ∈ wsX3_alloc := by decide +kernel
def sX3_alloc_262 (f : Nat → Int32) (g : Nat → Nat → Int32) (v3 : Int32) : Option (Int32 × (Nat → Int32) × (Nat → Nat → Int32)) := bWv (sX3_close f g) (fun f17 g18 => bz v3 (some ((v3, f17, g18))))
set_option maxHeartbeats 4000000 in
set_option maxRecDepth 100000 in
theorem bX3_alloc_262 {p : Program} {l : Launch} {e : Env} {s : State} {m : MethodId} {args : Array Value} {below : List Frame} {meth : Method} {c : Code} {Q : State → Prop} {A : Nat → Prop} {G : va_G} {cyI cyZ : ClassId} {x : Nat} {ad : Nat → Nat} (X : rh_X p s m args c cX3_alloc 6 RX3 wsX3_alloc G [(cyI, .int), (cyZ, .boolean)] [] A) {r' : Int32} {f' : Nat → Int32} {g' : Nat → Nat → Int32} (ret : ∀ (H : Heap) (locs : List Loc) (ls : Array Slot) (pc : Nat), narrow .boolean (.int r') = .int r' → decode cX3_alloc pc = .ok (.ireturn, 1) → rh_W G A s H locs (mw cyI cyZ x ad f' g') → W p l e rmX3_alloc s m args below meth c H locs 0 0 Q (F0 m pc ls [.int r'])) : ∀ (H : Heap) (locs : List Loc) (ls : Array Slot) (f : Nat → Int32) (g : Nat → Nat → Int32) (v3 : Int32), rh_W G A s H locs (mw cyI cyZ x ad f g) → lv_has ls 6 [(0, .ref x), (3, .int v3)] → sX3_alloc_262 f g v3 = some (r', f', g') → W p l e rmX3_alloc s m args below meth c H locs 0 0 Q (F0 m 262 ls []) := by
  have hx := X.1
  have hb := X.2.1
  have hown := X.2.2.2.1
  have hts := X.2.2.2.2.1
  have hK := X.2.2.2.2.2.1
  have hNN := X.2.2.2.2.2.2.1.2
  intro H locs ls f g v3 h hl hs
  unfold sX3_alloc_262 at hs
  refine lv_aload_n hx hb dX3_alloc_262 rfl (lv_at hl 0 rfl) ?_
  obtain ⟨f17, g18, h19, hs⟩ := bWv_some hs
  refine rh_Vv X h (kX3_close l G (cyI := cyI) (cyZ := cyZ) (x := x) (ad := ad) h19) (cwV 0 hts gX3_alloc_X3_close rfl rfl rfl (by decide +kernel) ⟨Nat.le_of_ble_eq_true rfl, Nat.le_of_ble_eq_true rfl⟩) (va_recv hK h.1 (ci := 3) (q0 := 0) rfl rfl) rfl hl.1 rfl (Nat.le_of_ble_eq_true rfl) dX3_alloc_263 ⟨Nat.zero_le _, Nat.zero_le _⟩ (fun H locs h => ?_)
  refine lv_iload_n hx hb dX3_alloc_266 rfl (lv_at hl 1 rfl) ?_
  obtain ⟨hz20, hs⟩ := bz_some hs
  cases hs
  exact ret _ _ _ _ (bz_nar hz20) dX3_alloc_267 h
def sX3_alloc_95 : Nat → (Nat → Int32) → (Nat → Nat → Int32) → Int32 → Int32 → Int32 → Int32 → Int32 → Option (Int32 × (Nat → Int32) × (Nat → Nat → Int32))
  | 0, _, _, _, _, _, _, _ => none
  | k + 1, f, g, v1, v2, v3, v4, v5 => if v2 < v5 then (bR (sX3_at  (f 3) v4) (fun r25 => wt 800 r25 (rd (g 3) 2 (f 3) (fun v28 => lt (v28 + (v2 + 1)) (fun z31 => wt 2 (f 3) (lt ((f 12) + 1) (fun z34 => wt 16 v1 (wt 16 v1 (if (f 4) = 0 then (rd (upd (g 3) (f 3).toNatClampNeg z31) 2 (f 3) (fun v39 => if (2 * v39) ≤ (f 1) then (sX3_alloc_262 (upd f 12 z34) (ur (ur (ur (ur g 2 (upd (g 2) r25.toNatClampNeg (-1))) 3 (upd (g 3) (f 3).toNatClampNeg z31)) 4 (upd (g 4) v1.toNatClampNeg (vp_nar .boolean 1))) 5 (upd (g 5) v1.toNatClampNeg v4)) v3) else (bWv (sX3_begin (upd f 12 z34) (ur (ur (ur (ur g 2 (upd (g 2) r25.toNatClampNeg (-1))) 3 (upd (g 3) (f 3).toNatClampNeg z31)) 4 (upd (g 4) v1.toNatClampNeg (vp_nar .boolean 1))) 5 (upd (g 5) v1.toNatClampNeg v4))) (fun f43 g44 => sX3_alloc_262 f43 g44 v3)))) else (bWi (sX3_work (upd f 12 z34) (ur (ur (ur (ur g 2 (upd (g 2) r25.toNatClampNeg (-1))) 3 (upd (g 3) (f 3).toNatClampNeg z31)) 4 (upd (g 4) v1.toNatClampNeg (vp_nar .boolean 1))) 5 (upd (g 5) v1.toNatClampNeg v4)) ((f 2) * (v2 + 1))) (fun r46 f47 g48 => sX3_alloc_262 f47 g48 v3))))))))))) else (bR (sX3_at  (f 3) v4) (fun r50 => if v5 = 0 then (wt 800 (r50 + v5) (bR (sX3_at  (f 3) v4) (fun r60 => if v5 = 0 then (wt 800 (r60 + v5) (sX3_alloc_95 k f (ur (ur g 0 (upd (g 0) (r50 + v5).toNatClampNeg 3)) 1 (upd (g 1) (r60 + v5).toNatClampNeg v2)) v1 v2 v3 v4 (v5 + 1))) else (wt 800 (r60 + v5) (sX3_alloc_95 k f (ur (ur g 0 (upd (g 0) (r50 + v5).toNatClampNeg 3)) 1 (upd (g 1) (r60 + v5).toNatClampNeg 0)) v1 v2 v3 v4 (v5 + 1)))))) else (wt 800 (r50 + v5) (bR (sX3_at  (f 3) v4) (fun r54 => if v5 = 0 then (wt 800 (r54 + v5) (sX3_alloc_95 k f (ur (ur g 0 (upd (g 0) (r50 + v5).toNatClampNeg 0)) 1 (upd (g 1) (r54 + v5).toNatClampNeg v2)) v1 v2 v3 v4 (v5 + 1))) else (wt 800 (r54 + v5) (sX3_alloc_95 k f (ur (ur g 0 (upd (g 0) (r50 + v5).toNatClampNeg 0)) 1 (upd (g 1) (r54 + v5).toNatClampNeg 0)) v1 v2 v3 v4 (v5 + 1))))))))
set_option maxHeartbeats 4000000 in
set_option maxRecDepth 100000 in
theorem bX3_alloc_95 {p : Program} {l : Launch} {e : Env} {s : State} {m : MethodId} {args : Array Value} {below : List Frame} {meth : Method} {c : Code} {Q : State → Prop} {A : Nat → Prop} {G : va_G} {cyI cyZ : ClassId} {x : Nat} {ad : Nat → Nat} (X : rh_X p s m args c cX3_alloc 6 RX3 wsX3_alloc G [(cyI, .int), (cyZ, .boolean)] [] A) {r' : Int32} {f' : Nat → Int32} {g' : Nat → Nat → Int32} (ret : ∀ (H : Heap) (locs : List Loc) (ls : Array Slot) (pc : Nat), narrow .boolean (.int r') = .int r' → decode cX3_alloc pc = .ok (.ireturn, 1) → rh_W G A s H locs (mw cyI cyZ x ad f' g') → W p l e rmX3_alloc s m args below meth c H locs 0 0 Q (F0 m pc ls [.int r'])) : ∀ k : Nat, ∀ (H : Heap) (locs : List Loc) (ls : Array Slot) (f : Nat → Int32) (g : Nat → Nat → Int32) (v1 : Int32) (v2 : Int32) (v3 : Int32) (v4 : Int32) (v5 : Int32), rh_W G A s H locs (mw cyI cyZ x ad f g) → lv_has ls 6 [(0, .ref x), (1, .int v1), (2, .int v2), (3, .int v3), (4, .int v4), (5, .int v5)] → sX3_alloc_95 k f g v1 v2 v3 v4 v5 = some (r', f', g') → W p l e rmX3_alloc s m args below meth c H locs 0 0 Q (F0 m 95 ls []) := by
  have hx := X.1
  have hb := X.2.1
  have hown := X.2.2.2.1
  have hts := X.2.2.2.2.1
  have hK := X.2.2.2.2.2.1
  have hNN := X.2.2.2.2.2.2.1.2
  intro k
  induction k with
  | zero => intro H locs ls f g v1 v2 v3 v4 v5 h hl hs; cases hs
  | succ k ih =>
    intro H locs ls f g v1 v2 v3 v4 v5 h hl hs
    simp only [sX3_alloc_95] at hs
    refine lv_iload hx hb dX3_alloc_95 (lv_at hl 5 rfl) ?_
    refine lv_iload_n hx hb dX3_alloc_97 rfl (lv_at hl 2 rfl) ?_
    refine lv_icmp_gt (tgt := 161) hx hb dX3_alloc_98 (by decide) (fun c24 => ?_) (fun c24 => ?_)
    · have hs := ite_p c24 hs
      refine lv_aload_n hx hb dX3_alloc_161 rfl (lv_at hl 0 rfl) ?_
      refine rh_get X h (v := .ref (ad 3)) iX3_alloc_X3 0 5 rfl rfl (by decide) (by decide +kernel) rfl dX3_alloc_162 ?_
      refine lv_aload_n hx hb dX3_alloc_165 rfl (lv_at hl 0 rfl) ?_
      refine rh_get X h (v := .int (f 3)) iX3_alloc_X3 0 7 rfl rfl (by decide) (by decide +kernel) rfl dX3_alloc_166 ?_
      refine lv_iload hx hb dX3_alloc_169 (lv_at hl 4 rfl) ?_
      obtain ⟨r25, h26, hs⟩ := bR_some hs
      refine rh_Si X h (kX3_at l G h26) (va_cwS 2 hts gX3_alloc_X3_at rfl rfl rfl (by decide +kernel) ⟨Nat.le_of_ble_eq_true rfl, Nat.le_of_ble_eq_true rfl⟩) rfl hl.1 rfl (Nat.le_of_ble_eq_true rfl) dX3_alloc_171 ⟨Nat.zero_le _, Nat.zero_le _⟩ (fun H locs h => ?_)
      refine lv_iconst (v := (-1)) hx hb dX3_alloc_174 (by decide) ?_
      obtain ⟨i27, hs⟩ := wt_some hs
      refine rh_iast X h 3 0 rfl rfl i27 dX3_alloc_175 (fun H locs h => ?_)
      have h : rh_W G A s H locs (mw cyI cyZ x ad f (ur g 2 (upd (g 2) r25.toNatClampNeg (-1)))) := mr_2 h
      refine lv_aload_n hx hb dX3_alloc_176 rfl (lv_at hl 0 rfl) ?_
      refine rh_get X h (v := .ref (ad 4)) iX3_alloc_X3 0 6 rfl rfl (by decide) (by decide +kernel) rfl dX3_alloc_177 ?_
      refine lv_aload_n hx hb dX3_alloc_180 rfl (lv_at hl 0 rfl) ?_
      refine rh_get X h (v := .int (f 3)) iX3_alloc_X3 0 7 rfl rfl (by decide) (by decide +kernel) rfl dX3_alloc_181 ?_
      refine lv_dup2_11 hx hb dX3_alloc_184 rfl rfl ?_
      obtain ⟨i30, v28, e29, hs⟩ := rd_some hs
      refine rh_iald X h 4 0 rfl rfl i30 e29 dX3_alloc_185 ?_
      refine lv_iload_n hx hb dX3_alloc_186 rfl (lv_at hl 2 rfl) ?_
      refine lv_iconst (v := 1) hx hb dX3_alloc_187 (by decide) ?_
      refine lv_iadd hx hb dX3_alloc_188 ?_
      refine lv_iadd hx hb dX3_alloc_189 ?_
      obtain ⟨z31, e32, hs⟩ := lt_some hs
      refine rh_top e32 ?_
      obtain ⟨i33, hs⟩ := wt_some hs
      refine rh_iast X h 4 0 rfl rfl i33 dX3_alloc_190 (fun H locs h => ?_)
      have h : rh_W G A s H locs (mw cyI cyZ x ad f (ur (ur g 2 (upd (g 2) r25.toNatClampNeg (-1))) 3 (upd (g 3) (f 3).toNatClampNeg z31))) := mr_3 h
      refine lv_aload_n hx hb dX3_alloc_191 rfl (lv_at hl 0 rfl) ?_
      refine lv_dup hx hb dX3_alloc_192 rfl ?_
      refine rh_get X h (v := .int (f 12)) iX3_alloc_X3 0 20 rfl rfl (by decide) (by decide +kernel) rfl dX3_alloc_193 ?_
      refine lv_iconst (v := 1) hx hb dX3_alloc_196 (by decide) ?_
      refine lv_iadd hx hb dX3_alloc_197 ?_
      obtain ⟨z34, e35, hs⟩ := lt_some hs
      refine rh_top e35 ?_
      refine rh_put X h iX3_alloc_X3 tyX3 tyX3_ok nmX3 0 20 rfl rfl (by decide) (by decide +kernel) rfl rfl rfl (Nat.le_of_ble_eq_true rfl) dX3_alloc_198 (fun H locs h => ?_)
      have h : rh_W G A s H locs (mw cyI cyZ x ad (upd f 12 z34) (ur (ur g 2 (upd (g 2) r25.toNatClampNeg (-1))) 3 (upd (g 3) (f 3).toNatClampNeg z31))) := mp_12 h
      refine lv_aload_n hx hb dX3_alloc_201 rfl (lv_at hl 0 rfl) ?_
      refine rh_get X h (v := .ref (ad 5)) iX3_alloc_X3 0 8 rfl rfl (by decide) (by decide +kernel) rfl dX3_alloc_202 ?_
      refine lv_iload_n hx hb dX3_alloc_205 rfl (lv_at hl 1 rfl) ?_
      refine lv_iconst (v := 1) hx hb dX3_alloc_206 (by decide) ?_
      obtain ⟨i36, hs⟩ := wt_some hs
      refine rh_zast X h 5 1 rfl rfl i36 dX3_alloc_207 (fun H locs h => ?_)
      have h : rh_W G A s H locs (mw cyI cyZ x ad (upd f 12 z34) (ur (ur (ur g 2 (upd (g 2) r25.toNatClampNeg (-1))) 3 (upd (g 3) (f 3).toNatClampNeg z31)) 4 (upd (g 4) v1.toNatClampNeg (vp_nar .boolean 1)))) := mr_4 h
      refine lv_aload_n hx hb dX3_alloc_208 rfl (lv_at hl 0 rfl) ?_
      refine rh_get X h (v := .ref (ad 6)) iX3_alloc_X3 0 9 rfl rfl (by decide) (by decide +kernel) rfl dX3_alloc_209 ?_
      refine lv_iload_n hx hb dX3_alloc_212 rfl (lv_at hl 1 rfl) ?_
      refine lv_iload hx hb dX3_alloc_213 (lv_at hl 4 rfl) ?_
      obtain ⟨i37, hs⟩ := wt_some hs
      refine rh_iast X h 6 0 rfl rfl i37 dX3_alloc_215 (fun H locs h => ?_)
      have h : rh_W G A s H locs (mw cyI cyZ x ad (upd f 12 z34) (ur (ur (ur (ur g 2 (upd (g 2) r25.toNatClampNeg (-1))) 3 (upd (g 3) (f 3).toNatClampNeg z31)) 4 (upd (g 4) v1.toNatClampNeg (vp_nar .boolean 1))) 5 (upd (g 5) v1.toNatClampNeg v4))) := mr_5 h
      refine lv_aload_n hx hb dX3_alloc_216 rfl (lv_at hl 0 rfl) ?_
      refine rh_get X h (v := .int (f 4)) iX3_alloc_X3 0 10 rfl rfl (by decide) (by decide +kernel) rfl dX3_alloc_217 ?_
      refine lv_if_eq (tgt := 240) hx hb dX3_alloc_220 (by decide) (fun c38 => ?_) (fun c38 => ?_)
      · have hs := ite_p c38 hs
        refine lv_iconst (v := 2) hx hb dX3_alloc_240 (by decide) ?_
        refine lv_aload_n hx hb dX3_alloc_241 rfl (lv_at hl 0 rfl) ?_
        refine rh_get X h (v := .ref (ad 4)) iX3_alloc_X3 0 6 rfl rfl (by decide) (by decide +kernel) rfl dX3_alloc_242 ?_
        refine lv_aload_n hx hb dX3_alloc_245 rfl (lv_at hl 0 rfl) ?_
        refine rh_get X h (v := .int (f 3)) iX3_alloc_X3 0 7 rfl rfl (by decide) (by decide +kernel) rfl dX3_alloc_246 ?_
        obtain ⟨i41, v39, e40, hs⟩ := rd_some hs
        refine rh_iald X h 4 0 rfl rfl i41 e40 dX3_alloc_249 ?_
        refine lv_imul hx hb dX3_alloc_250 ?_
        refine lv_aload_n hx hb dX3_alloc_251 rfl (lv_at hl 0 rfl) ?_
        refine rh_get X h (v := .int (f 1)) iX3_alloc_X3 0 1 rfl rfl (by decide) (by decide +kernel) rfl dX3_alloc_252 ?_
        refine lv_icmp_le (tgt := 262) hx hb dX3_alloc_255 (by decide) (fun c42 => ?_) (fun c42 => ?_)
        · have hs := ite_p c42 hs
          exact bX3_alloc_262 X ret  _ _ _ (upd f 12 z34) (ur (ur (ur (ur g 2 (upd (g 2) r25.toNatClampNeg (-1))) 3 (upd (g 3) (f 3).toNatClampNeg z31)) 4 (upd (g 4) v1.toNatClampNeg (vp_nar .boolean 1))) 5 (upd (g 5) v1.toNatClampNeg v4)) v3 h (lv_sub hl [0, 3] rfl) hs
        · have hs := ite_n c42 hs
          refine lv_aload_n hx hb dX3_alloc_258 rfl (lv_at hl 0 rfl) ?_
          obtain ⟨f43, g44, h45, hs⟩ := bWv_some hs
          refine rh_Vv X h (kX3_begin l G (cyI := cyI) (cyZ := cyZ) (x := x) (ad := ad) h45) (cwV 0 hts gX3_alloc_X3_begin rfl rfl rfl (by decide +kernel) ⟨Nat.le_of_ble_eq_true rfl, Nat.le_of_ble_eq_true rfl⟩) (va_recv hK h.1 (ci := 3) (q0 := 0) rfl rfl) rfl hl.1 rfl (Nat.le_of_ble_eq_true rfl) dX3_alloc_259 ⟨Nat.zero_le _, Nat.zero_le _⟩ (fun H locs h => ?_)
          exact bX3_alloc_262 X ret  _ _ _ f43 g44 v3 h (lv_sub hl [0, 3] rfl) hs
      · have hs := ite_n c38 hs
        refine lv_aload_n hx hb dX3_alloc_223 rfl (lv_at hl 0 rfl) ?_
        refine lv_aload_n hx hb dX3_alloc_224 rfl (lv_at hl 0 rfl) ?_
        refine rh_get X h (v := .int (f 2)) iX3_alloc_X3 0 2 rfl rfl (by decide) (by decide +kernel) rfl dX3_alloc_225 ?_
        refine lv_iload_n hx hb dX3_alloc_228 rfl (lv_at hl 2 rfl) ?_
        refine lv_iconst (v := 1) hx hb dX3_alloc_229 (by decide) ?_
        refine lv_iadd hx hb dX3_alloc_230 ?_
        refine lv_imul hx hb dX3_alloc_231 ?_
        obtain ⟨r46, f47, g48, h49, hs⟩ := bWi_some hs
        refine rh_Vi X h (kX3_work l G (cyI := cyI) (cyZ := cyZ) (x := x) (ad := ad) h49) (cwV 1 hts gX3_alloc_X3_work rfl rfl rfl (by decide +kernel) ⟨Nat.le_of_ble_eq_true rfl, Nat.le_of_ble_eq_true rfl⟩) (va_recv hK h.1 (ci := 3) (q0 := 0) rfl rfl) rfl hl.1 rfl (Nat.le_of_ble_eq_true rfl) dX3_alloc_232 ⟨Nat.zero_le _, Nat.zero_le _⟩ (fun H locs h => ?_)
        refine lv_istore (lv' := [(5, .int r46), (0, .ref x), (1, .int v1), (2, .int v2), (3, .int v3), (4, .int v4)]) hx hb dX3_alloc_235 hl (by decide) rfl (fun ls hl => ?_)
        refine lv_goto (tgt := 262) hx hb dX3_alloc_237 (by decide) ?_
        exact bX3_alloc_262 X ret  _ _ _ f47 g48 v3 h (lv_sub hl [1, 4] rfl) hs
    · have hs := ite_n c24 hs
      refine lv_aload_n hx hb dX3_alloc_101 rfl (lv_at hl 0 rfl) ?_
      refine rh_get X h (v := .ref (ad 1)) iX3_alloc_X3 0 3 rfl rfl (by decide) (by decide +kernel) rfl dX3_alloc_102 ?_
      refine lv_aload_n hx hb dX3_alloc_105 rfl (lv_at hl 0 rfl) ?_
      refine rh_get X h (v := .int (f 3)) iX3_alloc_X3 0 7 rfl rfl (by decide) (by decide +kernel) rfl dX3_alloc_106 ?_
      refine lv_iload hx hb dX3_alloc_109 (lv_at hl 4 rfl) ?_
      obtain ⟨r50, h51, hs⟩ := bR_some hs
      refine rh_Si X h (kX3_at l G h51) (va_cwS 2 hts gX3_alloc_X3_at rfl rfl rfl (by decide +kernel) ⟨Nat.le_of_ble_eq_true rfl, Nat.le_of_ble_eq_true rfl⟩) rfl hl.1 rfl (Nat.le_of_ble_eq_true rfl) dX3_alloc_111 ⟨Nat.zero_le _, Nat.zero_le _⟩ (fun H locs h => ?_)
      refine lv_iload hx hb dX3_alloc_114 (lv_at hl 5 rfl) ?_
      refine lv_iadd hx hb dX3_alloc_116 ?_
      refine lv_iload hx hb dX3_alloc_117 (lv_at hl 5 rfl) ?_
      refine lv_if_ne (tgt := 126) hx hb dX3_alloc_119 (by decide) (fun c52 => ?_) (fun c52 => ?_)
      · have hs := ite_n c52 hs
        refine lv_iconst (v := 0) hx hb dX3_alloc_126 (by decide) ?_
        obtain ⟨i53, hs⟩ := wt_some hs
        refine rh_iast X h 1 0 rfl rfl i53 dX3_alloc_127 (fun H locs h => ?_)
        have h : rh_W G A s H locs (mw cyI cyZ x ad f (ur g 0 (upd (g 0) (r50 + v5).toNatClampNeg 0))) := mr_0 h
        refine lv_aload_n hx hb dX3_alloc_128 rfl (lv_at hl 0 rfl) ?_
        refine rh_get X h (v := .ref (ad 2)) iX3_alloc_X3 0 4 rfl rfl (by decide) (by decide +kernel) rfl dX3_alloc_129 ?_
        refine lv_aload_n hx hb dX3_alloc_132 rfl (lv_at hl 0 rfl) ?_
        refine rh_get X h (v := .int (f 3)) iX3_alloc_X3 0 7 rfl rfl (by decide) (by decide +kernel) rfl dX3_alloc_133 ?_
        refine lv_iload hx hb dX3_alloc_136 (lv_at hl 4 rfl) ?_
        obtain ⟨r54, h55, hs⟩ := bR_some hs
        refine rh_Si X h (kX3_at l G h55) (va_cwS 2 hts gX3_alloc_X3_at rfl rfl rfl (by decide +kernel) ⟨Nat.le_of_ble_eq_true rfl, Nat.le_of_ble_eq_true rfl⟩) rfl hl.1 rfl (Nat.le_of_ble_eq_true rfl) dX3_alloc_138 ⟨Nat.zero_le _, Nat.zero_le _⟩ (fun H locs h => ?_)
        refine lv_iload hx hb dX3_alloc_141 (lv_at hl 5 rfl) ?_
        refine lv_iadd hx hb dX3_alloc_143 ?_
        refine lv_iload hx hb dX3_alloc_144 (lv_at hl 5 rfl) ?_
        refine lv_if_ne (tgt := 153) hx hb dX3_alloc_146 (by decide) (fun c56 => ?_) (fun c56 => ?_)
        · have hs := ite_n c56 hs
          refine lv_iconst (v := 0) hx hb dX3_alloc_153 (by decide) ?_
          obtain ⟨i57, hs⟩ := wt_some hs
          refine rh_iast X h 2 0 rfl rfl i57 dX3_alloc_154 (fun H locs h => ?_)
          have h : rh_W G A s H locs (mw cyI cyZ x ad f (ur (ur g 0 (upd (g 0) (r50 + v5).toNatClampNeg 0)) 1 (upd (g 1) (r54 + v5).toNatClampNeg 0))) := mr_1 h
          refine lv_iinc (v := v5 + 1) (lv' := [(5, .int (v5 + 1)), (0, .ref x), (1, .int v1), (2, .int v2), (3, .int v3), (4, .int v4)]) hx hb dX3_alloc_155 hl (k := 5) rfl rfl (by decide) rfl (fun ls hl => ?_)
          refine lv_goto (tgt := 95) hx hb dX3_alloc_158 (by decide) ?_
          exact ih _ _ _ f (ur (ur g 0 (upd (g 0) (r50 + v5).toNatClampNeg 0)) 1 (upd (g 1) (r54 + v5).toNatClampNeg 0)) v1 v2 v3 v4 (v5 + 1) h (lv_sub hl [1, 2, 3, 4, 5, 0] rfl) hs
        · have hs := ite_p c56 hs
          refine lv_iload_n hx hb dX3_alloc_149 rfl (lv_at hl 2 rfl) ?_
          refine lv_goto (tgt := 154) hx hb dX3_alloc_150 (by decide) ?_
          obtain ⟨i58, hs⟩ := wt_some hs
          refine rh_iast X h 2 0 rfl rfl i58 dX3_alloc_154 (fun H locs h => ?_)
          have h : rh_W G A s H locs (mw cyI cyZ x ad f (ur (ur g 0 (upd (g 0) (r50 + v5).toNatClampNeg 0)) 1 (upd (g 1) (r54 + v5).toNatClampNeg v2))) := mr_1 h
          refine lv_iinc (v := v5 + 1) (lv' := [(5, .int (v5 + 1)), (0, .ref x), (1, .int v1), (2, .int v2), (3, .int v3), (4, .int v4)]) hx hb dX3_alloc_155 hl (k := 5) rfl rfl (by decide) rfl (fun ls hl => ?_)
          refine lv_goto (tgt := 95) hx hb dX3_alloc_158 (by decide) ?_
          exact ih _ _ _ f (ur (ur g 0 (upd (g 0) (r50 + v5).toNatClampNeg 0)) 1 (upd (g 1) (r54 + v5).toNatClampNeg v2)) v1 v2 v3 v4 (v5 + 1) h (lv_sub hl [1, 2, 3, 4, 5, 0] rfl) hs
      · have hs := ite_p c52 hs
        refine lv_iconst (v := 3) hx hb dX3_alloc_122 (by decide) ?_
        refine lv_goto (tgt := 127) hx hb dX3_alloc_123 (by decide) ?_
        obtain ⟨i59, hs⟩ := wt_some hs
        refine rh_iast X h 1 0 rfl rfl i59 dX3_alloc_127 (fun H locs h => ?_)
        have h : rh_W G A s H locs (mw cyI cyZ x ad f (ur g 0 (upd (g 0) (r50 + v5).toNatClampNeg 3))) := mr_0 h
        refine lv_aload_n hx hb dX3_alloc_128 rfl (lv_at hl 0 rfl) ?_
        refine rh_get X h (v := .ref (ad 2)) iX3_alloc_X3 0 4 rfl rfl (by decide) (by decide +kernel) rfl dX3_alloc_129 ?_
        refine lv_aload_n hx hb dX3_alloc_132 rfl (lv_at hl 0 rfl) ?_
        refine rh_get X h (v := .int (f 3)) iX3_alloc_X3 0 7 rfl rfl (by decide) (by decide +kernel) rfl dX3_alloc_133 ?_
        refine lv_iload hx hb dX3_alloc_136 (lv_at hl 4 rfl) ?_
        obtain ⟨r60, h61, hs⟩ := bR_some hs
        refine rh_Si X h (kX3_at l G h61) (va_cwS 2 hts gX3_alloc_X3_at rfl rfl rfl (by decide +kernel) ⟨Nat.le_of_ble_eq_true rfl, Nat.le_of_ble_eq_true rfl⟩) rfl hl.1 rfl (Nat.le_of_ble_eq_true rfl) dX3_alloc_138 ⟨Nat.zero_le _, Nat.zero_le _⟩ (fun H locs h => ?_)
        refine lv_iload hx hb dX3_alloc_141 (lv_at hl 5 rfl) ?_
        refine lv_iadd hx hb dX3_alloc_143 ?_
        refine lv_iload hx hb dX3_alloc_144 (lv_at hl 5 rfl) ?_
        refine lv_if_ne (tgt := 153) hx hb dX3_alloc_146 (by decide) (fun c62 => ?_) (fun c62 => ?_)
        · have hs := ite_n c62 hs
          refine lv_iconst (v := 0) hx hb dX3_alloc_153 (by decide) ?_
          obtain ⟨i63, hs⟩ := wt_some hs
          refine rh_iast X h 2 0 rfl rfl i63 dX3_alloc_154 (fun H locs h => ?_)
          have h : rh_W G A s H locs (mw cyI cyZ x ad f (ur (ur g 0 (upd (g 0) (r50 + v5).toNatClampNeg 3)) 1 (upd (g 1) (r60 + v5).toNatClampNeg 0))) := mr_1 h
          refine lv_iinc (v := v5 + 1) (lv' := [(5, .int (v5 + 1)), (0, .ref x), (1, .int v1), (2, .int v2), (3, .int v3), (4, .int v4)]) hx hb dX3_alloc_155 hl (k := 5) rfl rfl (by decide) rfl (fun ls hl => ?_)
          refine lv_goto (tgt := 95) hx hb dX3_alloc_158 (by decide) ?_
          exact ih _ _ _ f (ur (ur g 0 (upd (g 0) (r50 + v5).toNatClampNeg 3)) 1 (upd (g 1) (r60 + v5).toNatClampNeg 0)) v1 v2 v3 v4 (v5 + 1) h (lv_sub hl [1, 2, 3, 4, 5, 0] rfl) hs
        · have hs := ite_p c62 hs
          refine lv_iload_n hx hb dX3_alloc_149 rfl (lv_at hl 2 rfl) ?_
          refine lv_goto (tgt := 154) hx hb dX3_alloc_150 (by decide) ?_
          obtain ⟨i64, hs⟩ := wt_some hs
          refine rh_iast X h 2 0 rfl rfl i64 dX3_alloc_154 (fun H locs h => ?_)
          have h : rh_W G A s H locs (mw cyI cyZ x ad f (ur (ur g 0 (upd (g 0) (r50 + v5).toNatClampNeg 3)) 1 (upd (g 1) (r60 + v5).toNatClampNeg v2))) := mr_1 h
          refine lv_iinc (v := v5 + 1) (lv' := [(5, .int (v5 + 1)), (0, .ref x), (1, .int v1), (2, .int v2), (3, .int v3), (4, .int v4)]) hx hb dX3_alloc_155 hl (k := 5) rfl rfl (by decide) rfl (fun ls hl => ?_)
          refine lv_goto (tgt := 95) hx hb dX3_alloc_158 (by decide) ?_
          exact ih _ _ _ f (ur (ur g 0 (upd (g 0) (r50 + v5).toNatClampNeg 3)) 1 (upd (g 1) (r60 + v5).toNatClampNeg v2)) v1 v2 v3 v4 (v5 + 1) h (lv_sub hl [1, 2, 3, 4, 5, 0] rfl) hs
def sX3_alloc_71 (f : Nat → Int32) (g : Nat → Nat → Int32) (v1 : Int32) (v2 : Int32) : Option (Int32 × (Nat → Int32) × (Nat → Nat → Int32)) := bR (sX3_has f g v2) (fun r14 => if r14 = 0 then (sX3_alloc_262 f g r14) else (rd (g 3) 2 (f 3) (fun v21 => sX3_alloc_95 40 f g v1 v2 r14 v21 0)))
set_option maxHeartbeats 4000000 in
set_option maxRecDepth 100000 in
theorem bX3_alloc_71 {p : Program} {l : Launch} {e : Env} {s : State} {m : MethodId} {args : Array Value} {below : List Frame} {meth : Method} {c : Code} {Q : State → Prop} {A : Nat → Prop} {G : va_G} {cyI cyZ : ClassId} {x : Nat} {ad : Nat → Nat} (X : rh_X p s m args c cX3_alloc 6 RX3 wsX3_alloc G [(cyI, .int), (cyZ, .boolean)] [] A) {r' : Int32} {f' : Nat → Int32} {g' : Nat → Nat → Int32} (ret : ∀ (H : Heap) (locs : List Loc) (ls : Array Slot) (pc : Nat), narrow .boolean (.int r') = .int r' → decode cX3_alloc pc = .ok (.ireturn, 1) → rh_W G A s H locs (mw cyI cyZ x ad f' g') → W p l e rmX3_alloc s m args below meth c H locs 0 0 Q (F0 m pc ls [.int r'])) : ∀ (H : Heap) (locs : List Loc) (ls : Array Slot) (f : Nat → Int32) (g : Nat → Nat → Int32) (v1 : Int32) (v2 : Int32), rh_W G A s H locs (mw cyI cyZ x ad f g) → lv_has ls 6 [(0, .ref x), (1, .int v1), (2, .int v2)] → sX3_alloc_71 f g v1 v2 = some (r', f', g') → W p l e rmX3_alloc s m args below meth c H locs 0 0 Q (F0 m 71 ls []) := by
  have hx := X.1
  have hb := X.2.1
  have hown := X.2.2.2.1
  have hts := X.2.2.2.2.1
  have hK := X.2.2.2.2.2.1
  have hNN := X.2.2.2.2.2.2.1.2
  intro H locs ls f g v1 v2 h hl hs
  unfold sX3_alloc_71 at hs
  refine lv_aload_n hx hb dX3_alloc_71 rfl (lv_at hl 0 rfl) ?_
  refine lv_iload_n hx hb dX3_alloc_72 rfl (lv_at hl 2 rfl) ?_
  obtain ⟨r14, h15, hs⟩ := bR_some hs
  refine rh_Vi X h (kX3_has l G (cyI := cyI) (cyZ := cyZ) (x := x) (ad := ad) h15) (cwV 1 hts gX3_alloc_X3_has rfl rfl rfl (by decide +kernel) ⟨Nat.le_of_ble_eq_true rfl, Nat.le_of_ble_eq_true rfl⟩) (va_recv hK h.1 (ci := 3) (q0 := 0) rfl rfl) rfl hl.1 rfl (Nat.le_of_ble_eq_true rfl) dX3_alloc_73 ⟨Nat.zero_le _, Nat.zero_le _⟩ (fun H locs h => ?_)
  refine lv_istore_n (lv' := [(3, .int r14), (0, .ref x), (1, .int v1), (2, .int v2)]) hx hb dX3_alloc_76 rfl hl (by decide) rfl (fun ls hl => ?_)
  refine lv_iload_n hx hb dX3_alloc_77 rfl (lv_at hl 0 rfl) ?_
  refine lv_if_eq (tgt := 262) hx hb dX3_alloc_78 (by decide) (fun c16 => ?_) (fun c16 => ?_)
  · have hs := ite_p c16 hs
    exact bX3_alloc_262 X ret  _ _ _ f g r14 h (lv_sub hl [1, 0] rfl) hs
  · have hs := ite_n c16 hs
    refine lv_aload_n hx hb dX3_alloc_81 rfl (lv_at hl 1 rfl) ?_
    refine rh_get X h (v := .ref (ad 4)) iX3_alloc_X3 0 6 rfl rfl (by decide) (by decide +kernel) rfl dX3_alloc_82 ?_
    refine lv_aload_n hx hb dX3_alloc_85 rfl (lv_at hl 1 rfl) ?_
    refine rh_get X h (v := .int (f 3)) iX3_alloc_X3 0 7 rfl rfl (by decide) (by decide +kernel) rfl dX3_alloc_86 ?_
    obtain ⟨i23, v21, e22, hs⟩ := rd_some hs
    refine rh_iald X h 4 0 rfl rfl i23 e22 dX3_alloc_89 ?_
    refine lv_istore (lv' := [(4, .int v21), (3, .int r14), (0, .ref x), (1, .int v1), (2, .int v2)]) hx hb dX3_alloc_90 hl (by decide) rfl (fun ls hl => ?_)
    refine lv_iconst (v := 0) hx hb dX3_alloc_92 (by decide) ?_
    refine lv_istore (lv' := [(5, .int 0), (4, .int v21), (3, .int r14), (0, .ref x), (1, .int v1), (2, .int v2)]) hx hb dX3_alloc_93 hl (by decide) rfl (fun ls hl => ?_)
    exact bX3_alloc_95 X ret 40  _ _ _ f g v1 v2 r14 v21 0 h (lv_sub hl [3, 4, 5, 2, 1, 0] rfl) hs
def sX3_alloc_59 (f : Nat → Int32) (g : Nat → Nat → Int32) (v1 : Int32) (v2 : Int32) : Option (Int32 × (Nat → Int32) × (Nat → Nat → Int32)) := bR (sX3_has f g v2) (fun r11 => if r11 = 0 then (bWv (sX3_pause f g) (fun f65 g66 => sX3_alloc_71 f65 g66 v1 v2)) else (sX3_alloc_71 f g v1 v2))
set_option maxHeartbeats 4000000 in
set_option maxRecDepth 100000 in
theorem bX3_alloc_59 {p : Program} {l : Launch} {e : Env} {s : State} {m : MethodId} {args : Array Value} {below : List Frame} {meth : Method} {c : Code} {Q : State → Prop} {A : Nat → Prop} {G : va_G} {cyI cyZ : ClassId} {x : Nat} {ad : Nat → Nat} (X : rh_X p s m args c cX3_alloc 6 RX3 wsX3_alloc G [(cyI, .int), (cyZ, .boolean)] [] A) {r' : Int32} {f' : Nat → Int32} {g' : Nat → Nat → Int32} (ret : ∀ (H : Heap) (locs : List Loc) (ls : Array Slot) (pc : Nat), narrow .boolean (.int r') = .int r' → decode cX3_alloc pc = .ok (.ireturn, 1) → rh_W G A s H locs (mw cyI cyZ x ad f' g') → W p l e rmX3_alloc s m args below meth c H locs 0 0 Q (F0 m pc ls [.int r'])) : ∀ (H : Heap) (locs : List Loc) (ls : Array Slot) (f : Nat → Int32) (g : Nat → Nat → Int32) (v1 : Int32) (v2 : Int32), rh_W G A s H locs (mw cyI cyZ x ad f g) → lv_has ls 6 [(0, .ref x), (1, .int v1), (2, .int v2)] → sX3_alloc_59 f g v1 v2 = some (r', f', g') → W p l e rmX3_alloc s m args below meth c H locs 0 0 Q (F0 m 59 ls []) := by
  have hx := X.1
  have hb := X.2.1
  have hown := X.2.2.2.1
  have hts := X.2.2.2.2.1
  have hK := X.2.2.2.2.2.1
  have hNN := X.2.2.2.2.2.2.1.2
  intro H locs ls f g v1 v2 h hl hs
  unfold sX3_alloc_59 at hs
  refine lv_aload_n hx hb dX3_alloc_59 rfl (lv_at hl 0 rfl) ?_
  refine lv_iload_n hx hb dX3_alloc_60 rfl (lv_at hl 2 rfl) ?_
  obtain ⟨r11, h12, hs⟩ := bR_some hs
  refine rh_Vi X h (kX3_has l G (cyI := cyI) (cyZ := cyZ) (x := x) (ad := ad) h12) (cwV 1 hts gX3_alloc_X3_has rfl rfl rfl (by decide +kernel) ⟨Nat.le_of_ble_eq_true rfl, Nat.le_of_ble_eq_true rfl⟩) (va_recv hK h.1 (ci := 3) (q0 := 0) rfl rfl) rfl hl.1 rfl (Nat.le_of_ble_eq_true rfl) dX3_alloc_61 ⟨Nat.zero_le _, Nat.zero_le _⟩ (fun H locs h => ?_)
  refine lv_if_ne (tgt := 71) hx hb dX3_alloc_64 (by decide) (fun c13 => ?_) (fun c13 => ?_)
  · have hs := ite_n c13 hs
    exact bX3_alloc_71 X ret  _ _ _ f g v1 v2 h (lv_sub hl [0, 1, 2] rfl) hs
  · have hs := ite_p c13 hs
    refine lv_aload_n hx hb dX3_alloc_67 rfl (lv_at hl 0 rfl) ?_
    obtain ⟨f65, g66, h67, hs⟩ := bWv_some hs
    refine rh_Vv X h (kX3_pause l G (cyI := cyI) (cyZ := cyZ) (x := x) (ad := ad) h67) (cwV 0 hts gX3_alloc_X3_pause rfl rfl rfl (by decide +kernel) ⟨Nat.le_of_ble_eq_true rfl, Nat.le_of_ble_eq_true rfl⟩) (va_recv hK h.1 (ci := 3) (q0 := 0) rfl rfl) rfl hl.1 rfl (Nat.le_of_ble_eq_true rfl) dX3_alloc_68 ⟨Nat.zero_le _, Nat.zero_le _⟩ (fun H locs h => ?_)
    exact bX3_alloc_71 X ret  _ _ _ f65 g66 v1 v2 h (lv_sub hl [0, 1, 2] rfl) hs
def sX3_alloc_24 (f : Nat → Int32) (g : Nat → Nat → Int32) (v1 : Int32) (v2 : Int32) (t1 : Int32) : Option (Int32 × (Nat → Int32) × (Nat → Nat → Int32)) := if t1 ≤ 0 then (bWv (sX3_open (upd f 0 t1) g) (fun f5 g6 => bR (sX3_has f5 g6 v2) (fun r8 => if r8 = 0 then (if (f5 4) = 0 then (sX3_alloc_59 f5 g6 v1 v2) else (bWv (sX3_pause f5 g6) (fun f69 g70 => sX3_alloc_59 f69 g70 v1 v2))) else (sX3_alloc_59 f5 g6 v1 v2)))) else (some ((0, (upd f 0 t1), g)))
set_option maxHeartbeats 4000000 in
set_option maxRecDepth 100000 in
theorem bX3_alloc_24 {p : Program} {l : Launch} {e : Env} {s : State} {m : MethodId} {args : Array Value} {below : List Frame} {meth : Method} {c : Code} {Q : State → Prop} {A : Nat → Prop} {G : va_G} {cyI cyZ : ClassId} {x : Nat} {ad : Nat → Nat} (X : rh_X p s m args c cX3_alloc 6 RX3 wsX3_alloc G [(cyI, .int), (cyZ, .boolean)] [] A) {r' : Int32} {f' : Nat → Int32} {g' : Nat → Nat → Int32} (ret : ∀ (H : Heap) (locs : List Loc) (ls : Array Slot) (pc : Nat), narrow .boolean (.int r') = .int r' → decode cX3_alloc pc = .ok (.ireturn, 1) → rh_W G A s H locs (mw cyI cyZ x ad f' g') → W p l e rmX3_alloc s m args below meth c H locs 0 0 Q (F0 m pc ls [.int r'])) : ∀ (H : Heap) (locs : List Loc) (ls : Array Slot) (f : Nat → Int32) (g : Nat → Nat → Int32) (v1 : Int32) (v2 : Int32) (t1 : Int32), rh_W G A s H locs (mw cyI cyZ x ad f g) → lv_has ls 6 [(0, .ref x), (1, .int v1), (2, .int v2)] → sX3_alloc_24 f g v1 v2 t1 = some (r', f', g') → W p l e rmX3_alloc s m args below meth c H locs 0 0 Q (F0 m 24 ls [.int t1, .ref x]) := by
  have hx := X.1
  have hb := X.2.1
  have hown := X.2.2.2.1
  have hts := X.2.2.2.2.1
  have hK := X.2.2.2.2.2.1
  have hNN := X.2.2.2.2.2.2.1.2
  intro H locs ls f g v1 v2 t1 h hl hs
  unfold sX3_alloc_24 at hs
  refine rh_put X h iX3_alloc_X3 tyX3 tyX3_ok nmX3 0 0 rfl rfl (by decide) (by decide +kernel) rfl rfl rfl (Nat.le_of_ble_eq_true rfl) dX3_alloc_24 (fun H locs h => ?_)
  have h : rh_W G A s H locs (mw cyI cyZ x ad (upd f 0 t1) g) := mp_0 h
  refine lv_aload_n hx hb dX3_alloc_27 rfl (lv_at hl 0 rfl) ?_
  refine rh_get X h (v := .int t1) iX3_alloc_X3 0 0 rfl rfl (by decide) (by decide +kernel) rfl dX3_alloc_28 ?_
  refine lv_if_le (tgt := 36) hx hb dX3_alloc_31 (by decide) (fun c4 => ?_) (fun c4 => ?_)
  · have hs := ite_p c4 hs
    refine lv_aload_n hx hb dX3_alloc_36 rfl (lv_at hl 0 rfl) ?_
    obtain ⟨f5, g6, h7, hs⟩ := bWv_some hs
    refine rh_Vv X h (kX3_open l G (cyI := cyI) (cyZ := cyZ) (x := x) (ad := ad) h7) (cwV 0 hts gX3_alloc_X3_open rfl rfl rfl (by decide +kernel) ⟨Nat.le_of_ble_eq_true rfl, Nat.le_of_ble_eq_true rfl⟩) (va_recv hK h.1 (ci := 3) (q0 := 0) rfl rfl) rfl hl.1 rfl (Nat.le_of_ble_eq_true rfl) dX3_alloc_37 ⟨Nat.zero_le _, Nat.zero_le _⟩ (fun H locs h => ?_)
    refine lv_aload_n hx hb dX3_alloc_40 rfl (lv_at hl 0 rfl) ?_
    refine lv_iload_n hx hb dX3_alloc_41 rfl (lv_at hl 2 rfl) ?_
    obtain ⟨r8, h9, hs⟩ := bR_some hs
    refine rh_Vi X h (kX3_has l G (cyI := cyI) (cyZ := cyZ) (x := x) (ad := ad) h9) (cwV 1 hts gX3_alloc_X3_has rfl rfl rfl (by decide +kernel) ⟨Nat.le_of_ble_eq_true rfl, Nat.le_of_ble_eq_true rfl⟩) (va_recv hK h.1 (ci := 3) (q0 := 0) rfl rfl) rfl hl.1 rfl (Nat.le_of_ble_eq_true rfl) dX3_alloc_42 ⟨Nat.zero_le _, Nat.zero_le _⟩ (fun H locs h => ?_)
    refine lv_if_ne (tgt := 59) hx hb dX3_alloc_45 (by decide) (fun c10 => ?_) (fun c10 => ?_)
    · have hs := ite_n c10 hs
      exact bX3_alloc_59 X ret  _ _ _ f5 g6 v1 v2 h (lv_sub hl [0, 1, 2] rfl) hs
    · have hs := ite_p c10 hs
      refine lv_aload_n hx hb dX3_alloc_48 rfl (lv_at hl 0 rfl) ?_
      refine rh_get X h (v := .int (f5 4)) iX3_alloc_X3 0 10 rfl rfl (by decide) (by decide +kernel) rfl dX3_alloc_49 ?_
      refine lv_if_eq (tgt := 59) hx hb dX3_alloc_52 (by decide) (fun c68 => ?_) (fun c68 => ?_)
      · have hs := ite_p c68 hs
        exact bX3_alloc_59 X ret  _ _ _ f5 g6 v1 v2 h (lv_sub hl [0, 1, 2] rfl) hs
      · have hs := ite_n c68 hs
        refine lv_aload_n hx hb dX3_alloc_55 rfl (lv_at hl 0 rfl) ?_
        obtain ⟨f69, g70, h71, hs⟩ := bWv_some hs
        refine rh_Vv X h (kX3_pause l G (cyI := cyI) (cyZ := cyZ) (x := x) (ad := ad) h71) (cwV 0 hts gX3_alloc_X3_pause rfl rfl rfl (by decide +kernel) ⟨Nat.le_of_ble_eq_true rfl, Nat.le_of_ble_eq_true rfl⟩) (va_recv hK h.1 (ci := 3) (q0 := 0) rfl rfl) rfl hl.1 rfl (Nat.le_of_ble_eq_true rfl) dX3_alloc_56 ⟨Nat.zero_le _, Nat.zero_le _⟩ (fun H locs h => ?_)
        exact bX3_alloc_59 X ret  _ _ _ f69 g70 v1 v2 h (lv_sub hl [0, 1, 2] rfl) hs
  · have hs := ite_n c4 hs
    refine lv_iconst (v := 0) hx hb dX3_alloc_34 (by decide) ?_
    cases hs
    exact ret _ _ _ _ rfl dX3_alloc_35 h
def sX3_alloc_23 (f : Nat → Int32) (g : Nat → Nat → Int32) (v1 : Int32) (v2 : Int32) : Option (Int32 × (Nat → Int32) × (Nat → Nat → Int32)) := sX3_alloc_24 f g v1 v2 1
set_option maxHeartbeats 4000000 in
set_option maxRecDepth 100000 in
theorem bX3_alloc_23 {p : Program} {l : Launch} {e : Env} {s : State} {m : MethodId} {args : Array Value} {below : List Frame} {meth : Method} {c : Code} {Q : State → Prop} {A : Nat → Prop} {G : va_G} {cyI cyZ : ClassId} {x : Nat} {ad : Nat → Nat} (X : rh_X p s m args c cX3_alloc 6 RX3 wsX3_alloc G [(cyI, .int), (cyZ, .boolean)] [] A) {r' : Int32} {f' : Nat → Int32} {g' : Nat → Nat → Int32} (ret : ∀ (H : Heap) (locs : List Loc) (ls : Array Slot) (pc : Nat), narrow .boolean (.int r') = .int r' → decode cX3_alloc pc = .ok (.ireturn, 1) → rh_W G A s H locs (mw cyI cyZ x ad f' g') → W p l e rmX3_alloc s m args below meth c H locs 0 0 Q (F0 m pc ls [.int r'])) : ∀ (H : Heap) (locs : List Loc) (ls : Array Slot) (f : Nat → Int32) (g : Nat → Nat → Int32) (v1 : Int32) (v2 : Int32), rh_W G A s H locs (mw cyI cyZ x ad f g) → lv_has ls 6 [(0, .ref x), (1, .int v1), (2, .int v2)] → sX3_alloc_23 f g v1 v2 = some (r', f', g') → W p l e rmX3_alloc s m args below meth c H locs 0 0 Q (F0 m 23 ls [.ref x]) := by
  have hx := X.1
  have hb := X.2.1
  have hown := X.2.2.2.1
  have hts := X.2.2.2.2.1
  have hK := X.2.2.2.2.2.1
  have hNN := X.2.2.2.2.2.2.1.2
  intro H locs ls f g v1 v2 h hl hs
  unfold sX3_alloc_23 at hs
  refine lv_iconst (v := 1) hx hb dX3_alloc_23 (by decide) ?_
  exact bX3_alloc_24 X ret  _ _ _ f g v1 v2 1 h (lv_sub hl [0, 1, 2] rfl) hs
def sX3_alloc (f : Nat → Int32) (g : Nat → Nat → Int32) (p1 : Int32) (p2 : Int32) : Option (Int32 × (Nat → Int32) × (Nat → Nat → Int32)) := bR (sX3_isRoot  p1) (fun r1 => if r1 = 0 then (sX3_alloc_23 f g p1 p2) else (if p2 < 1 then (sX3_alloc_23 f g p1 p2) else (if 8 < p2 then (sX3_alloc_23 f g p1 p2) else (sX3_alloc_24 f g p1 p2 0))))
set_option maxHeartbeats 4000000 in
set_option maxRecDepth 100000 in
theorem bX3_alloc {p : Program} {l : Launch} {e : Env} {s : State} {m : MethodId} {args : Array Value} {below : List Frame} {meth : Method} {c : Code} {Q : State → Prop} {A : Nat → Prop} {G : va_G} {cyI cyZ : ClassId} {x : Nat} {ad : Nat → Nat} (X : rh_X p s m args c cX3_alloc 6 RX3 wsX3_alloc G [(cyI, .int), (cyZ, .boolean)] [] A) {r' : Int32} {f' : Nat → Int32} {g' : Nat → Nat → Int32} (ret : ∀ (H : Heap) (locs : List Loc) (ls : Array Slot) (pc : Nat), narrow .boolean (.int r') = .int r' → decode cX3_alloc pc = .ok (.ireturn, 1) → rh_W G A s H locs (mw cyI cyZ x ad f' g') → W p l e rmX3_alloc s m args below meth c H locs 0 0 Q (F0 m pc ls [.int r'])) : ∀ (H : Heap) (locs : List Loc) (ls : Array Slot) (f : Nat → Int32) (g : Nat → Nat → Int32) (p1 : Int32) (p2 : Int32), rh_W G A s H locs (mw cyI cyZ x ad f g) → lv_has ls 6 [(0, .ref x), (1, .int p1), (2, .int p2)] → sX3_alloc f g p1 p2 = some (r', f', g') → W p l e rmX3_alloc s m args below meth c H locs 0 0 Q (F0 m 0 ls []) := by
  have hx := X.1
  have hb := X.2.1
  have hown := X.2.2.2.1
  have hts := X.2.2.2.2.1
  have hK := X.2.2.2.2.2.1
  have hNN := X.2.2.2.2.2.2.1.2
  intro H locs ls f g p1 p2 h hl hs
  unfold sX3_alloc at hs
  refine lv_aload_n hx hb dX3_alloc_0 rfl (lv_at hl 0 rfl) ?_
  refine lv_iload_n hx hb dX3_alloc_1 rfl (lv_at hl 1 rfl) ?_
  obtain ⟨r1, h2, hs⟩ := bR_some hs
  refine rh_Si X h (kX3_isRoot l G h2) (va_cwS 1 hts gX3_alloc_X3_isRoot rfl rfl rfl (by decide +kernel) ⟨Nat.le_of_ble_eq_true rfl, Nat.le_of_ble_eq_true rfl⟩) rfl hl.1 rfl (Nat.le_of_ble_eq_true rfl) dX3_alloc_2 ⟨Nat.zero_le _, Nat.zero_le _⟩ (fun H locs h => ?_)
  refine lv_if_eq (tgt := 23) hx hb dX3_alloc_5 (by decide) (fun c3 => ?_) (fun c3 => ?_)
  · have hs := ite_p c3 hs
    exact bX3_alloc_23 X ret  _ _ _ f g p1 p2 h (lv_sub hl [0, 1, 2] rfl) hs
  · have hs := ite_n c3 hs
    refine lv_iload_n hx hb dX3_alloc_8 rfl (lv_at hl 2 rfl) ?_
    refine lv_iconst (v := 1) hx hb dX3_alloc_9 (by decide) ?_
    refine lv_icmp_lt (tgt := 23) hx hb dX3_alloc_10 (by decide) (fun c72 => ?_) (fun c72 => ?_)
    · have hs := ite_p c72 hs
      exact bX3_alloc_23 X ret  _ _ _ f g p1 p2 h (lv_sub hl [0, 1, 2] rfl) hs
    · have hs := ite_n c72 hs
      refine lv_iload_n hx hb dX3_alloc_13 rfl (lv_at hl 2 rfl) ?_
      refine lv_bipush (v := 8) hx hb dX3_alloc_14 (by decide) ?_
      refine lv_icmp_gt (tgt := 23) hx hb dX3_alloc_16 (by decide) (fun c73 => ?_) (fun c73 => ?_)
      · have hs := ite_p c73 hs
        exact bX3_alloc_23 X ret  _ _ _ f g p1 p2 h (lv_sub hl [0, 1, 2] rfl) hs
      · have hs := ite_n c73 hs
        refine lv_iconst (v := 0) hx hb dX3_alloc_19 (by decide) ?_
        refine lv_goto (tgt := 24) hx hb dX3_alloc_20 (by decide) ?_
        exact bX3_alloc_24 X ret  _ _ _ f g p1 p2 0 h (lv_sub hl [0, 1, 2] rfl) hs
theorem kX3_alloc (l : Launch) (G : va_G) {cyI cyZ : ClassId} {x : Nat} {ad : Nat → Nat} {f : Nat → Int32} {g : Nat → Nat → Int32} {p1 : Int32} {p2 : Int32} {r' : Int32} {f' : Nat → Int32} {g' : Nat → Nat → Int32} (hs : sX3_alloc f g p1 p2 = some (r', f', g')) : rh_Mi l yX3_alloc wsX3_alloc rmX3_alloc G [(cyI, .int), (cyZ, .boolean)] [] (mw cyI cyZ x ad f g) [.ref x, .int p1, .int p2] r' (mw cyI cyZ x ad f' g') :=
  rh_ofi (by decide +kernel) rfl (Nat.le_of_ble_eq_true rfl) (fun p e s m below meth c A Q X ret ls hl h => bX3_alloc X ret _ _ ls f g p1 p2 h hl hs)
