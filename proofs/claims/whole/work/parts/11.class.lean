abbrev rmX0_clear : Room := { frames := 0, cells := 0, slots := 0, locals := 0 }
set_option maxRecDepth 100000 in
theorem iX0_clear_X0 : ∀ w ∈ u_ws RX0 TX0 4, w ∈ wsX0_clear := by decide +kernel
def sX0_clear (n : Nat) (ad : Nat → Nat) (f : Nat → Int32) (g : Nat → Nat → Int32) : Option ((Nat → Int32) × (Nat → Nat → Int32)) := some (((upd (upd f 10 0) 11 0), g))
set_option maxHeartbeats 4000000 in
set_option maxRecDepth 100000 in
theorem bX0_clear {p : Program} {l : Launch} {e : Env} {s : State} {m : MethodId} {args : Array Value} {below : List Frame} {meth : Method} {c : Code} {Q : State → Prop} {A : Nat → Prop} {G : va_G} {cyI cyZ : ClassId} {n x : Nat} {ad : Nat → Nat} (X : rh_X p s m args c cX0_clear 1 RX0 wsX0_clear G [(cyI, .int), (cyZ, .boolean)] rn_C A) {f' : Nat → Int32} {g' : Nat → Nat → Int32} (ret : ∀ (H : Heap) (locs : List Loc) (ls : Array Slot) (pc : Nat), decode cX0_clear pc = .ok (.return_, 1) → rh_W G A s H locs (cw cyI cyZ n x ad f' g') → W p l e rmX0_clear s m args below meth c H locs 0 0 Q (F0 m pc ls [])) : ∀ (H : Heap) (locs : List Loc) (ls : Array Slot) (f : Nat → Int32) (g : Nat → Nat → Int32), rh_W G A s H locs (cw cyI cyZ n x ad f g) → lv_has ls 1 [(0, .ref (ad 1))] → sX0_clear n ad f g = some (f', g') → W p l e rmX0_clear s m args below meth c H locs 0 0 Q (F0 m 0 ls []) := by
  have hx := X.1
  have hb := X.2.1
  have hown := X.2.2.2.1
  have hts := X.2.2.2.2.1
  have hK := X.2.2.2.2.2.1
  have hNN := X.2.2.2.2.2.2.1.2
  intro H locs ls f g h hl hs
  unfold sX0_clear at hs
  refine lv_aload_n hx hb dX0_clear_0 rfl (lv_at hl 0 rfl) ?_
  refine lv_iconst (v := 0) hx hb dX0_clear_1 (by decide) ?_
  refine rh_put X h iX0_clear_X0 tyX0 tyX0_ok nmX0 1 2 rfl rfl (by decide) (by decide +kernel) rfl rfl rfl (Nat.le_of_ble_eq_true rfl) dX0_clear_2 (fun H locs h => ?_)
  have h : rh_W G A s H locs (cw cyI cyZ n x ad (upd f 10 0) g) := cp_10 h
  refine lv_aload_n hx hb dX0_clear_5 rfl (lv_at hl 0 rfl) ?_
  refine lv_iconst (v := 0) hx hb dX0_clear_6 (by decide) ?_
  refine rh_put X h iX0_clear_X0 tyX0 tyX0_ok nmX0 1 3 rfl rfl (by decide) (by decide +kernel) rfl rfl rfl (Nat.le_of_ble_eq_true rfl) dX0_clear_7 (fun H locs h => ?_)
  have h : rh_W G A s H locs (cw cyI cyZ n x ad (upd (upd f 10 0) 11 0) g) := cp_11 h
  cases hs
  exact ret _ _ _ _ dX0_clear_10 h
theorem kX0_clear (l : Launch) (G : va_G) {cyI cyZ : ClassId} {n x : Nat} {ad : Nat → Nat} {f : Nat → Int32} {g : Nat → Nat → Int32} {f' : Nat → Int32} {g' : Nat → Nat → Int32} (hs : sX0_clear n ad f g = some (f', g')) : rh_Mv l yX0_clear wsX0_clear rmX0_clear G [(cyI, .int), (cyZ, .boolean)] rn_C (cw cyI cyZ n x ad f g) [.ref (ad 1)] (cw cyI cyZ n x ad f' g') :=
  rh_ofv (by decide +kernel) rfl (Nat.le_of_ble_eq_true rfl) (fun p e s m below meth c A Q X ret ls hl h => bX0_clear X ret _ _ ls f g h hl hs)
abbrev rmX0_add : Room := { frames := 1, cells := 0, slots := 0, locals := 20 }
set_option maxRecDepth 100000 in
theorem iX0_add_X0 : ∀ w ∈ u_ws RX0 TX0 4, w ∈ wsX0_add := by decide +kernel
def sX0_add_14 (n : Nat) (ad : Nat → Nat) (f : Nat → Int32) (g : Nat → Nat → Int32) (v1 : Int32) (v2 : Int32) : Option ((Nat → Int32) × (Nat → Nat → Int32)) := wt 512 (f 10) (wt 512 (f 10) (lt ((f 10) + 1) (fun z4 => some (((upd f 10 z4), (ur (ur g 2 (upd (g 2) (f 10).toNatClampNeg v1)) 3 (upd (g 3) (f 10).toNatClampNeg v2)))))))
set_option maxHeartbeats 4000000 in
set_option maxRecDepth 100000 in
theorem bX0_add_14 {p : Program} {l : Launch} {e : Env} {s : State} {m : MethodId} {args : Array Value} {below : List Frame} {meth : Method} {c : Code} {Q : State → Prop} {A : Nat → Prop} {G : va_G} {cyI cyZ : ClassId} {n x : Nat} {ad : Nat → Nat} (X : rh_X p s m args c cX0_add 3 RX0 wsX0_add G [(cyI, .int), (cyZ, .boolean)] rn_C A) {f' : Nat → Int32} {g' : Nat → Nat → Int32} (ret : ∀ (H : Heap) (locs : List Loc) (ls : Array Slot) (pc : Nat), decode cX0_add pc = .ok (.return_, 1) → rh_W G A s H locs (cw cyI cyZ n x ad f' g') → W p l e rmX0_add s m args below meth c H locs 0 0 Q (F0 m pc ls [])) : ∀ (H : Heap) (locs : List Loc) (ls : Array Slot) (f : Nat → Int32) (g : Nat → Nat → Int32) (v1 : Int32) (v2 : Int32), rh_W G A s H locs (cw cyI cyZ n x ad f g) → lv_has ls 3 [(0, .ref (ad 1)), (1, .int v1), (2, .int v2)] → sX0_add_14 n ad f g v1 v2 = some (f', g') → W p l e rmX0_add s m args below meth c H locs 0 0 Q (F0 m 14 ls []) := by
  have hx := X.1
  have hb := X.2.1
  have hown := X.2.2.2.1
  have hts := X.2.2.2.2.1
  have hK := X.2.2.2.2.2.1
  have hNN := X.2.2.2.2.2.2.1.2
  intro H locs ls f g v1 v2 h hl hs
  unfold sX0_add_14 at hs
  refine lv_aload_n hx hb dX0_add_14 rfl (lv_at hl 0 rfl) ?_
  refine rh_get X h (v := .ref (ad 6)) iX0_add_X0 1 0 rfl rfl (by decide) (by decide +kernel) rfl dX0_add_15 ?_
  refine lv_aload_n hx hb dX0_add_18 rfl (lv_at hl 0 rfl) ?_
  refine rh_get X h (v := .int (f 10)) iX0_add_X0 1 2 rfl rfl (by decide) (by decide +kernel) rfl dX0_add_19 ?_
  refine lv_iload_n hx hb dX0_add_22 rfl (lv_at hl 1 rfl) ?_
  obtain ⟨i2, hs⟩ := wt_some hs
  refine rh_iast X h 6 0 rfl rfl i2 dX0_add_23 (fun H locs h => ?_)
  have h : rh_W G A s H locs (cw cyI cyZ n x ad f (ur g 2 (upd (g 2) (f 10).toNatClampNeg v1))) := cr_2 h
  refine lv_aload_n hx hb dX0_add_24 rfl (lv_at hl 0 rfl) ?_
  refine rh_get X h (v := .ref (ad 7)) iX0_add_X0 1 1 rfl rfl (by decide) (by decide +kernel) rfl dX0_add_25 ?_
  refine lv_aload_n hx hb dX0_add_28 rfl (lv_at hl 0 rfl) ?_
  refine rh_get X h (v := .int (f 10)) iX0_add_X0 1 2 rfl rfl (by decide) (by decide +kernel) rfl dX0_add_29 ?_
  refine lv_iload_n hx hb dX0_add_32 rfl (lv_at hl 2 rfl) ?_
  obtain ⟨i3, hs⟩ := wt_some hs
  refine rh_iast X h 7 0 rfl rfl i3 dX0_add_33 (fun H locs h => ?_)
  have h : rh_W G A s H locs (cw cyI cyZ n x ad f (ur (ur g 2 (upd (g 2) (f 10).toNatClampNeg v1)) 3 (upd (g 3) (f 10).toNatClampNeg v2))) := cr_3 h
  refine lv_aload_n hx hb dX0_add_34 rfl (lv_at hl 0 rfl) ?_
  refine lv_dup hx hb dX0_add_35 rfl ?_
  refine rh_get X h (v := .int (f 10)) iX0_add_X0 1 2 rfl rfl (by decide) (by decide +kernel) rfl dX0_add_36 ?_
  refine lv_iconst (v := 1) hx hb dX0_add_39 (by decide) ?_
  refine lv_iadd hx hb dX0_add_40 ?_
  obtain ⟨z4, e5, hs⟩ := lt_some hs
  refine rh_top e5 ?_
  refine rh_put X h iX0_add_X0 tyX0 tyX0_ok nmX0 1 2 rfl rfl (by decide) (by decide +kernel) rfl rfl rfl (Nat.le_of_ble_eq_true rfl) dX0_add_41 (fun H locs h => ?_)
  have h : rh_W G A s H locs (cw cyI cyZ n x ad (upd f 10 z4) (ur (ur g 2 (upd (g 2) (f 10).toNatClampNeg v1)) 3 (upd (g 3) (f 10).toNatClampNeg v2))) := cp_10 h
  cases hs
  exact ret _ _ _ _ dX0_add_44 h
def sX0_add (n : Nat) (ad : Nat → Nat) (f : Nat → Int32) (g : Nat → Nat → Int32) (p1 : Int32) (p2 : Int32) : Option ((Nat → Int32) × (Nat → Nat → Int32)) := if (f 10) < 512 then (sX0_add_14 n ad f g p1 p2) else (bWv (sX0_clear n ad f g) (fun f6 g7 => sX0_add_14 n ad f6 g7 p1 p2))
set_option maxHeartbeats 4000000 in
set_option maxRecDepth 100000 in
theorem bX0_add {p : Program} {l : Launch} {e : Env} {s : State} {m : MethodId} {args : Array Value} {below : List Frame} {meth : Method} {c : Code} {Q : State → Prop} {A : Nat → Prop} {G : va_G} {cyI cyZ : ClassId} {n x : Nat} {ad : Nat → Nat} (X : rh_X p s m args c cX0_add 3 RX0 wsX0_add G [(cyI, .int), (cyZ, .boolean)] rn_C A) {f' : Nat → Int32} {g' : Nat → Nat → Int32} (ret : ∀ (H : Heap) (locs : List Loc) (ls : Array Slot) (pc : Nat), decode cX0_add pc = .ok (.return_, 1) → rh_W G A s H locs (cw cyI cyZ n x ad f' g') → W p l e rmX0_add s m args below meth c H locs 0 0 Q (F0 m pc ls [])) : ∀ (H : Heap) (locs : List Loc) (ls : Array Slot) (f : Nat → Int32) (g : Nat → Nat → Int32) (p1 : Int32) (p2 : Int32), rh_W G A s H locs (cw cyI cyZ n x ad f g) → lv_has ls 3 [(0, .ref (ad 1)), (1, .int p1), (2, .int p2)] → sX0_add n ad f g p1 p2 = some (f', g') → W p l e rmX0_add s m args below meth c H locs 0 0 Q (F0 m 0 ls []) := by
  have hx := X.1
  have hb := X.2.1
  have hown := X.2.2.2.1
  have hts := X.2.2.2.2.1
  have hK := X.2.2.2.2.2.1
  have hNN := X.2.2.2.2.2.2.1.2
  intro H locs ls f g p1 p2 h hl hs
  unfold sX0_add at hs
  refine lv_aload_n hx hb dX0_add_0 rfl (lv_at hl 0 rfl) ?_
  refine rh_get X h (v := .int (f 10)) iX0_add_X0 1 2 rfl rfl (by decide) (by decide +kernel) rfl dX0_add_1 ?_
  refine lv_sipush (v := 512) hx hb dX0_add_4 (by decide) ?_
  refine lv_icmp_lt (tgt := 14) hx hb dX0_add_7 (by decide) (fun c1 => ?_) (fun c1 => ?_)
  · have hs := ite_p c1 hs
    exact bX0_add_14 X ret  _ _ _ f g p1 p2 h (lv_sub hl [0, 1, 2] rfl) hs
  · have hs := ite_n c1 hs
    refine lv_aload_n hx hb dX0_add_10 rfl (lv_at hl 0 rfl) ?_
    obtain ⟨f6, g7, h8, hs⟩ := bWv_some hs
    refine rh_Vv X h (kX0_clear l G (cyI := cyI) (cyZ := cyZ) (x := x) h8) (cwV 0 hts gX0_add_X0_clear rfl rfl rfl (by decide +kernel) ⟨Nat.le_of_ble_eq_true rfl, Nat.le_of_ble_eq_true rfl⟩) (va_recv hK h.1 (ci := 0) (q0 := 1) rfl rfl) rfl hl.1 rfl (Nat.le_of_ble_eq_true rfl) dX0_add_11 ⟨Nat.zero_le _, Nat.zero_le _⟩ (fun H locs h => ?_)
    exact bX0_add_14 X ret  _ _ _ f6 g7 p1 p2 h (lv_sub hl [0, 1, 2] rfl) hs
theorem kX0_add (l : Launch) (G : va_G) {cyI cyZ : ClassId} {n x : Nat} {ad : Nat → Nat} {f : Nat → Int32} {g : Nat → Nat → Int32} {p1 : Int32} {p2 : Int32} {f' : Nat → Int32} {g' : Nat → Nat → Int32} (hs : sX0_add n ad f g p1 p2 = some (f', g')) : rh_Mv l yX0_add wsX0_add rmX0_add G [(cyI, .int), (cyZ, .boolean)] rn_C (cw cyI cyZ n x ad f g) [.ref (ad 1), .int p1, .int p2] (cw cyI cyZ n x ad f' g') :=
  rh_ofv (by decide +kernel) rfl (Nat.le_of_ble_eq_true rfl) (fun p e s m below meth c A Q X ret ls hl h => bX0_add X ret _ _ ls f g p1 p2 h hl hs)
abbrev rmX1_hasRoom : Room := { frames := 0, cells := 0, slots := 0, locals := 0 }
set_option maxRecDepth 100000 in
theorem iX1_hasRoom_X1 : ∀ w ∈ u_ws RX1 TX1 5, w ∈ wsX1_hasRoom := by decide +kernel
def sX1_hasRoom (n : Nat) (ad : Nat → Nat) (f : Nat → Int32) (g : Nat → Nat → Int32) (p1 : Int32) : Option Int32 := if (nI n) < (((f 13) + p1) + 1) then (some (0)) else (some (1))
set_option maxHeartbeats 4000000 in
set_option maxRecDepth 100000 in
theorem bX1_hasRoom {p : Program} {l : Launch} {e : Env} {s : State} {m : MethodId} {args : Array Value} {below : List Frame} {meth : Method} {c : Code} {Q : State → Prop} {A : Nat → Prop} {G : va_G} {cyI cyZ : ClassId} {n x : Nat} {ad : Nat → Nat} {f : Nat → Int32} {g : Nat → Nat → Int32} (X : rh_X p s m args c cX1_hasRoom 2 RX1 wsX1_hasRoom G [(cyI, .int), (cyZ, .boolean)] rn_C A) {r' : Int32} (ret : ∀ (H : Heap) (locs : List Loc) (ls : Array Slot) (pc : Nat), narrow .boolean (.int r') = .int r' → decode cX1_hasRoom pc = .ok (.ireturn, 1) → rh_W G A s H locs (cw cyI cyZ n x ad f g) → W p l e rmX1_hasRoom s m args below meth c H locs 0 0 Q (F0 m pc ls [.int r'])) : ∀ (H : Heap) (locs : List Loc) (ls : Array Slot) (p1 : Int32), rh_W G A s H locs (cw cyI cyZ n x ad f g) → lv_has ls 2 [(0, .ref (ad 2)), (1, .int p1)] → sX1_hasRoom n ad f g p1 = some r' → W p l e rmX1_hasRoom s m args below meth c H locs 0 0 Q (F0 m 0 ls []) := by
  have hx := X.1
  have hb := X.2.1
  have hown := X.2.2.2.1
  have hts := X.2.2.2.2.1
  have hK := X.2.2.2.2.2.1
  have hNN := X.2.2.2.2.2.2.1.2
  intro H locs ls p1 h hl hs
  unfold sX1_hasRoom at hs
  refine lv_aload_n hx hb dX1_hasRoom_0 rfl (lv_at hl 0 rfl) ?_
  refine rh_get X h (v := .int (f 13)) iX1_hasRoom_X1 2 4 rfl rfl (by decide) (by decide +kernel) rfl dX1_hasRoom_1 ?_
  refine lv_iload_n hx hb dX1_hasRoom_4 rfl (lv_at hl 1 rfl) ?_
  refine lv_iadd hx hb dX1_hasRoom_5 ?_
  refine lv_iconst (v := 1) hx hb dX1_hasRoom_6 (by decide) ?_
  refine lv_iadd hx hb dX1_hasRoom_7 ?_
  refine lv_aload_n hx hb dX1_hasRoom_8 rfl (lv_at hl 0 rfl) ?_
  refine rh_get X h (v := .ref (ad 8)) iX1_hasRoom_X1 2 1 rfl rfl (by decide) (by decide +kernel) rfl dX1_hasRoom_9 ?_
  refine rh_alen X h 8 0 rfl rfl dX1_hasRoom_12 ?_
  refine lv_icmp_gt (tgt := 20) hx hb dX1_hasRoom_13 (by decide) (fun c1 => ?_) (fun c1 => ?_)
  · have hs := ite_p c1 hs
    refine lv_iconst (v := 0) hx hb dX1_hasRoom_20 (by decide) ?_
    cases hs
    exact ret _ _ _ _ rfl dX1_hasRoom_21 h
  · have hs := ite_n c1 hs
    refine lv_iconst (v := 1) hx hb dX1_hasRoom_16 (by decide) ?_
    refine lv_goto (tgt := 21) hx hb dX1_hasRoom_17 (by decide) ?_
    cases hs
    exact ret _ _ _ _ rfl dX1_hasRoom_21 h
theorem kX1_hasRoom (l : Launch) (G : va_G) {cyI cyZ : ClassId} {n x : Nat} {ad : Nat → Nat} {f : Nat → Int32} {g : Nat → Nat → Int32} {p1 : Int32} {r' : Int32} (hs : sX1_hasRoom n ad f g p1 = some r') : rh_Mi l yX1_hasRoom wsX1_hasRoom rmX1_hasRoom G [(cyI, .int), (cyZ, .boolean)] rn_C (cw cyI cyZ n x ad f g) [.ref (ad 2), .int p1] r' (cw cyI cyZ n x ad f g) :=
  rh_ofi (by decide +kernel) rfl (Nat.le_of_ble_eq_true rfl) (fun p e s m below meth c A Q X ret ls hl h => bX1_hasRoom X ret _ _ ls p1 h hl hs)
abbrev rmX1_setCellC : Room := { frames := 0, cells := 0, slots := 0, locals := 0 }
set_option maxRecDepth 100000 in
theorem iX1_setCell_X1 : ∀ w ∈ u_ws RX1 TX1 5, w ∈ wsX1_setCell := by decide +kernel
def sX1_setCellC (n : Nat) (ad : Nat → Nat) (f : Nat → Int32) (g : Nat → Nat → Int32) (p1 : Int32) (p2 : Int32) (p3 : Int32) : Option ((Nat → Int32) × (Nat → Nat → Int32)) := wt n p1 (wt n p1 (some ((f, (ur (ur g 4 (upd (g 4) p1.toNatClampNeg p2)) 5 (upd (g 5) p1.toNatClampNeg p3))))))
set_option maxHeartbeats 4000000 in
set_option maxRecDepth 100000 in
theorem bX1_setCellC {p : Program} {l : Launch} {e : Env} {s : State} {m : MethodId} {args : Array Value} {below : List Frame} {meth : Method} {c : Code} {Q : State → Prop} {A : Nat → Prop} {G : va_G} {cyI cyZ : ClassId} {n x : Nat} {ad : Nat → Nat} (X : rh_X p s m args c cX1_setCell 4 RX1 wsX1_setCell G [(cyI, .int), (cyZ, .boolean)] rn_C A) {f' : Nat → Int32} {g' : Nat → Nat → Int32} (ret : ∀ (H : Heap) (locs : List Loc) (ls : Array Slot) (pc : Nat), decode cX1_setCell pc = .ok (.return_, 1) → rh_W G A s H locs (cw cyI cyZ n x ad f' g') → W p l e rmX1_setCellC s m args below meth c H locs 0 0 Q (F0 m pc ls [])) : ∀ (H : Heap) (locs : List Loc) (ls : Array Slot) (f : Nat → Int32) (g : Nat → Nat → Int32) (p1 : Int32) (p2 : Int32) (p3 : Int32), rh_W G A s H locs (cw cyI cyZ n x ad f g) → lv_has ls 4 [(0, .ref (ad 2)), (1, .int p1), (2, .int p2), (3, .int p3)] → sX1_setCellC n ad f g p1 p2 p3 = some (f', g') → W p l e rmX1_setCellC s m args below meth c H locs 0 0 Q (F0 m 0 ls []) := by
  have hx := X.1
  have hb := X.2.1
  have hown := X.2.2.2.1
  have hts := X.2.2.2.2.1
  have hK := X.2.2.2.2.2.1
  have hNN := X.2.2.2.2.2.2.1.2
  intro H locs ls f g p1 p2 p3 h hl hs
  unfold sX1_setCellC at hs
  refine lv_aload_n hx hb dX1_setCell_0 rfl (lv_at hl 0 rfl) ?_
  refine rh_get X h (v := .ref (ad 8)) iX1_setCell_X1 2 1 rfl rfl (by decide) (by decide +kernel) rfl dX1_setCell_1 ?_
  refine lv_iload_n hx hb dX1_setCell_4 rfl (lv_at hl 1 rfl) ?_
  refine lv_iload_n hx hb dX1_setCell_5 rfl (lv_at hl 2 rfl) ?_
  obtain ⟨i1, hs⟩ := wt_some hs
  refine rh_iast X h 8 0 rfl rfl i1 dX1_setCell_6 (fun H locs h => ?_)
  have h : rh_W G A s H locs (cw cyI cyZ n x ad f (ur g 4 (upd (g 4) p1.toNatClampNeg p2))) := cr_4 h
  refine lv_aload_n hx hb dX1_setCell_7 rfl (lv_at hl 0 rfl) ?_
  refine rh_get X h (v := .ref (ad 9)) iX1_setCell_X1 2 2 rfl rfl (by decide) (by decide +kernel) rfl dX1_setCell_8 ?_
  refine lv_iload_n hx hb dX1_setCell_11 rfl (lv_at hl 1 rfl) ?_
  refine lv_iload_n hx hb dX1_setCell_12 rfl (lv_at hl 3 rfl) ?_
  obtain ⟨i2, hs⟩ := wt_some hs
  refine rh_iast X h 9 0 rfl rfl i2 dX1_setCell_13 (fun H locs h => ?_)
  have h : rh_W G A s H locs (cw cyI cyZ n x ad f (ur (ur g 4 (upd (g 4) p1.toNatClampNeg p2)) 5 (upd (g 5) p1.toNatClampNeg p3))) := cr_5 h
  cases hs
  exact ret _ _ _ _ dX1_setCell_14 h
theorem kX1_setCellC (l : Launch) (G : va_G) {cyI cyZ : ClassId} {n x : Nat} {ad : Nat → Nat} {f : Nat → Int32} {g : Nat → Nat → Int32} {p1 : Int32} {p2 : Int32} {p3 : Int32} {f' : Nat → Int32} {g' : Nat → Nat → Int32} (hs : sX1_setCellC n ad f g p1 p2 p3 = some (f', g')) : rh_Mv l yX1_setCell wsX1_setCell rmX1_setCellC G [(cyI, .int), (cyZ, .boolean)] rn_C (cw cyI cyZ n x ad f g) [.ref (ad 2), .int p1, .int p2, .int p3] (cw cyI cyZ n x ad f' g') :=
  rh_ofv (by decide +kernel) rfl (Nat.le_of_ble_eq_true rfl) (fun p e s m below meth c A Q X ret ls hl h => bX1_setCellC X ret _ _ ls f g p1 p2 p3 h hl hs)
abbrev rmX1_setCellO : Room := { frames := 0, cells := 0, slots := 0, locals := 0 }
def sX1_setCellO (n : Nat) (ad : Nat → Nat) (f : Nat → Int32) (g : Nat → Nat → Int32) (p1 : Int32) (p2 : Int32) (p3 : Int32) : Option ((Nat → Int32) × (Nat → Nat → Int32)) := wt n p1 (wt n p1 (some ((f, (ur (ur g 7 (upd (g 7) p1.toNatClampNeg p2)) 8 (upd (g 8) p1.toNatClampNeg p3))))))
set_option maxHeartbeats 4000000 in
set_option maxRecDepth 100000 in
theorem bX1_setCellO {p : Program} {l : Launch} {e : Env} {s : State} {m : MethodId} {args : Array Value} {below : List Frame} {meth : Method} {c : Code} {Q : State → Prop} {A : Nat → Prop} {G : va_G} {cyI cyZ : ClassId} {n x : Nat} {ad : Nat → Nat} (X : rh_X p s m args c cX1_setCell 4 RX1 wsX1_setCell G [(cyI, .int), (cyZ, .boolean)] rn_C A) {f' : Nat → Int32} {g' : Nat → Nat → Int32} (ret : ∀ (H : Heap) (locs : List Loc) (ls : Array Slot) (pc : Nat), decode cX1_setCell pc = .ok (.return_, 1) → rh_W G A s H locs (cw cyI cyZ n x ad f' g') → W p l e rmX1_setCellO s m args below meth c H locs 0 0 Q (F0 m pc ls [])) : ∀ (H : Heap) (locs : List Loc) (ls : Array Slot) (f : Nat → Int32) (g : Nat → Nat → Int32) (p1 : Int32) (p2 : Int32) (p3 : Int32), rh_W G A s H locs (cw cyI cyZ n x ad f g) → lv_has ls 4 [(0, .ref (ad 3)), (1, .int p1), (2, .int p2), (3, .int p3)] → sX1_setCellO n ad f g p1 p2 p3 = some (f', g') → W p l e rmX1_setCellO s m args below meth c H locs 0 0 Q (F0 m 0 ls []) := by
  have hx := X.1
  have hb := X.2.1
  have hown := X.2.2.2.1
  have hts := X.2.2.2.2.1
  have hK := X.2.2.2.2.2.1
  have hNN := X.2.2.2.2.2.2.1.2
  intro H locs ls f g p1 p2 p3 h hl hs
  unfold sX1_setCellO at hs
  refine lv_aload_n hx hb dX1_setCell_0 rfl (lv_at hl 0 rfl) ?_
  refine rh_get X h (v := .ref (ad 11)) iX1_setCell_X1 3 1 rfl rfl (by decide) (by decide +kernel) rfl dX1_setCell_1 ?_
  refine lv_iload_n hx hb dX1_setCell_4 rfl (lv_at hl 1 rfl) ?_
  refine lv_iload_n hx hb dX1_setCell_5 rfl (lv_at hl 2 rfl) ?_
  obtain ⟨i1, hs⟩ := wt_some hs
  refine rh_iast X h 11 0 rfl rfl i1 dX1_setCell_6 (fun H locs h => ?_)
  have h : rh_W G A s H locs (cw cyI cyZ n x ad f (ur g 7 (upd (g 7) p1.toNatClampNeg p2))) := cr_7 h
  refine lv_aload_n hx hb dX1_setCell_7 rfl (lv_at hl 0 rfl) ?_
  refine rh_get X h (v := .ref (ad 12)) iX1_setCell_X1 3 2 rfl rfl (by decide) (by decide +kernel) rfl dX1_setCell_8 ?_
  refine lv_iload_n hx hb dX1_setCell_11 rfl (lv_at hl 1 rfl) ?_
  refine lv_iload_n hx hb dX1_setCell_12 rfl (lv_at hl 3 rfl) ?_
  obtain ⟨i2, hs⟩ := wt_some hs
  refine rh_iast X h 12 0 rfl rfl i2 dX1_setCell_13 (fun H locs h => ?_)
  have h : rh_W G A s H locs (cw cyI cyZ n x ad f (ur (ur g 7 (upd (g 7) p1.toNatClampNeg p2)) 8 (upd (g 8) p1.toNatClampNeg p3))) := cr_8 h
  cases hs
  exact ret _ _ _ _ dX1_setCell_14 h
theorem kX1_setCellO (l : Launch) (G : va_G) {cyI cyZ : ClassId} {n x : Nat} {ad : Nat → Nat} {f : Nat → Int32} {g : Nat → Nat → Int32} {p1 : Int32} {p2 : Int32} {p3 : Int32} {f' : Nat → Int32} {g' : Nat → Nat → Int32} (hs : sX1_setCellO n ad f g p1 p2 p3 = some (f', g')) : rh_Mv l yX1_setCell wsX1_setCell rmX1_setCellO G [(cyI, .int), (cyZ, .boolean)] rn_C (cw cyI cyZ n x ad f g) [.ref (ad 3), .int p1, .int p2, .int p3] (cw cyI cyZ n x ad f' g') :=
  rh_ofv (by decide +kernel) rfl (Nat.le_of_ble_eq_true rfl) (fun p e s m below meth c A Q X ret ls hl h => bX1_setCellO X ret _ _ ls f g p1 p2 p3 h hl hs)
abbrev rmX1_layObject : Room := { frames := 1, cells := 0, slots := 0, locals := 23 }
set_option maxRecDepth 100000 in
theorem iX1_layObject_X1 : ∀ w ∈ u_ws RX1 TX1 5, w ∈ wsX1_layObject := by decide +kernel
def sX1_layObject_21 : Nat → Nat → (Nat → Nat) → (Nat → Int32) → (Nat → Nat → Int32) → Int32 → Int32 → Int32 → Option (Int32 × (Nat → Int32) × (Nat → Nat → Int32))
  | 0, _, _, _, _, _, _, _ => none
  | k + 1, n, ad, f, g, v1, v2, v3 => if v1 < v3 then (lt ((f 13) + (v1 + 1)) (fun z6 => some ((v2, (upd f 13 z6), g)))) else (bWv (sX1_setCellC n ad f g (v2 + v3) 0 0) (fun f8 g9 => sX1_layObject_21 k n ad f8 g9 v1 v2 (v3 + 1)))
set_option maxHeartbeats 4000000 in
set_option maxRecDepth 100000 in
theorem bX1_layObject_21 {p : Program} {l : Launch} {e : Env} {s : State} {m : MethodId} {args : Array Value} {below : List Frame} {meth : Method} {c : Code} {Q : State → Prop} {A : Nat → Prop} {G : va_G} {cyI cyZ : ClassId} {n x : Nat} {ad : Nat → Nat} (X : rh_X p s m args c cX1_layObject 4 RX1 wsX1_layObject G [(cyI, .int), (cyZ, .boolean)] rn_C A) {r' : Int32} {f' : Nat → Int32} {g' : Nat → Nat → Int32} (ret : ∀ (H : Heap) (locs : List Loc) (ls : Array Slot) (pc : Nat), narrow .int (.int r') = .int r' → decode cX1_layObject pc = .ok (.ireturn, 1) → rh_W G A s H locs (cw cyI cyZ n x ad f' g') → W p l e rmX1_layObject s m args below meth c H locs 0 0 Q (F0 m pc ls [.int r'])) : ∀ k : Nat, ∀ (H : Heap) (locs : List Loc) (ls : Array Slot) (f : Nat → Int32) (g : Nat → Nat → Int32) (v1 : Int32) (v2 : Int32) (v3 : Int32), rh_W G A s H locs (cw cyI cyZ n x ad f g) → lv_has ls 4 [(0, .ref (ad 2)), (1, .int v1), (2, .int v2), (3, .int v3)] → sX1_layObject_21 k n ad f g v1 v2 v3 = some (r', f', g') → W p l e rmX1_layObject s m args below meth c H locs 0 0 Q (F0 m 21 ls []) := by
  have hx := X.1
  have hb := X.2.1
  have hown := X.2.2.2.1
  have hts := X.2.2.2.2.1
  have hK := X.2.2.2.2.2.1
  have hNN := X.2.2.2.2.2.2.1.2
  intro k
  induction k with
  | zero => intro H locs ls f g v1 v2 v3 h hl hs; cases hs
  | succ k ih =>
    intro H locs ls f g v1 v2 v3 h hl hs
    simp only [sX1_layObject_21] at hs
    refine lv_iload_n hx hb dX1_layObject_21 rfl (lv_at hl 3 rfl) ?_
    refine lv_iload_n hx hb dX1_layObject_22 rfl (lv_at hl 1 rfl) ?_
    refine lv_icmp_gt (tgt := 41) hx hb dX1_layObject_23 (by decide) (fun c5 => ?_) (fun c5 => ?_)
    · have hs := ite_p c5 hs
      refine lv_aload_n hx hb dX1_layObject_41 rfl (lv_at hl 0 rfl) ?_
      refine lv_dup hx hb dX1_layObject_42 rfl ?_
      refine rh_get X h (v := .int (f 13)) iX1_layObject_X1 2 4 rfl rfl (by decide) (by decide +kernel) rfl dX1_layObject_43 ?_
      refine lv_iload_n hx hb dX1_layObject_46 rfl (lv_at hl 1 rfl) ?_
      refine lv_iconst (v := 1) hx hb dX1_layObject_47 (by decide) ?_
      refine lv_iadd hx hb dX1_layObject_48 ?_
      refine lv_iadd hx hb dX1_layObject_49 ?_
      obtain ⟨z6, e7, hs⟩ := lt_some hs
      refine rh_top e7 ?_
      refine rh_put X h iX1_layObject_X1 tyX1 tyX1_ok nmX1 2 4 rfl rfl (by decide) (by decide +kernel) rfl rfl rfl (Nat.le_of_ble_eq_true rfl) dX1_layObject_50 (fun H locs h => ?_)
      have h : rh_W G A s H locs (cw cyI cyZ n x ad (upd f 13 z6) g) := cp_13 h
      refine lv_iload_n hx hb dX1_layObject_53 rfl (lv_at hl 2 rfl) ?_
      cases hs
      exact ret _ _ _ _ rfl dX1_layObject_54 h
    · have hs := ite_n c5 hs
      refine lv_aload_n hx hb dX1_layObject_26 rfl (lv_at hl 0 rfl) ?_
      refine lv_iload_n hx hb dX1_layObject_27 rfl (lv_at hl 2 rfl) ?_
      refine lv_iload_n hx hb dX1_layObject_28 rfl (lv_at hl 3 rfl) ?_
      refine lv_iadd hx hb dX1_layObject_29 ?_
      refine lv_iconst (v := 0) hx hb dX1_layObject_30 (by decide) ?_
      refine lv_iconst (v := 0) hx hb dX1_layObject_31 (by decide) ?_
      obtain ⟨f8, g9, h10, hs⟩ := bWv_some hs
      refine rh_Vv X h (kX1_setCellC l G (cyI := cyI) (cyZ := cyZ) (x := x) h10) (cwV 3 hts gX1_layObject_X1_setCell rfl rfl rfl (by decide +kernel) ⟨Nat.le_of_ble_eq_true rfl, Nat.le_of_ble_eq_true rfl⟩) (va_recv hK h.1 (ci := 1) (q0 := 2) rfl rfl) rfl hl.1 rfl (Nat.le_of_ble_eq_true rfl) dX1_layObject_32 ⟨Nat.zero_le _, Nat.zero_le _⟩ (fun H locs h => ?_)
      refine lv_iinc (v := v3 + 1) (lv' := [(3, .int (v3 + 1)), (0, .ref (ad 2)), (1, .int v1), (2, .int v2)]) hx hb dX1_layObject_35 hl (k := 3) rfl rfl (by decide) rfl (fun ls hl => ?_)
      refine lv_goto (tgt := 21) hx hb dX1_layObject_38 (by decide) ?_
      exact ih _ _ _ f8 g9 v1 v2 (v3 + 1) h (lv_sub hl [1, 2, 3, 0] rfl) hs
def sX1_layObject (n : Nat) (ad : Nat → Nat) (f : Nat → Int32) (g : Nat → Nat → Int32) (p1 : Int32) : Option (Int32 × (Nat → Int32) × (Nat → Nat → Int32)) := bWv (sX1_setCellC n ad f g (f 13) 3 p1) (fun f1 g2 => wt n (f 13) (sX1_layObject_21 40 n ad f1 (ur g2 6 (upd (g2 6) (f 13).toNatClampNeg (-1))) p1 (f 13) 1))
set_option maxHeartbeats 4000000 in
set_option maxRecDepth 100000 in
theorem bX1_layObject {p : Program} {l : Launch} {e : Env} {s : State} {m : MethodId} {args : Array Value} {below : List Frame} {meth : Method} {c : Code} {Q : State → Prop} {A : Nat → Prop} {G : va_G} {cyI cyZ : ClassId} {n x : Nat} {ad : Nat → Nat} (X : rh_X p s m args c cX1_layObject 4 RX1 wsX1_layObject G [(cyI, .int), (cyZ, .boolean)] rn_C A) {r' : Int32} {f' : Nat → Int32} {g' : Nat → Nat → Int32} (ret : ∀ (H : Heap) (locs : List Loc) (ls : Array Slot) (pc : Nat), narrow .int (.int r') = .int r' → decode cX1_layObject pc = .ok (.ireturn, 1) → rh_W G A s H locs (cw cyI cyZ n x ad f' g') → W p l e rmX1_layObject s m args below meth c H locs 0 0 Q (F0 m pc ls [.int r'])) : ∀ (H : Heap) (locs : List Loc) (ls : Array Slot) (f : Nat → Int32) (g : Nat → Nat → Int32) (p1 : Int32), rh_W G A s H locs (cw cyI cyZ n x ad f g) → lv_has ls 4 [(0, .ref (ad 2)), (1, .int p1)] → sX1_layObject n ad f g p1 = some (r', f', g') → W p l e rmX1_layObject s m args below meth c H locs 0 0 Q (F0 m 0 ls []) := by
  have hx := X.1
  have hb := X.2.1
  have hown := X.2.2.2.1
  have hts := X.2.2.2.2.1
  have hK := X.2.2.2.2.2.1
  have hNN := X.2.2.2.2.2.2.1.2
  intro H locs ls f g p1 h hl hs
  unfold sX1_layObject at hs
  refine lv_aload_n hx hb dX1_layObject_0 rfl (lv_at hl 0 rfl) ?_
  refine rh_get X h (v := .int (f 13)) iX1_layObject_X1 2 4 rfl rfl (by decide) (by decide +kernel) rfl dX1_layObject_1 ?_
  refine lv_istore_n (lv' := [(2, .int (f 13)), (0, .ref (ad 2)), (1, .int p1)]) hx hb dX1_layObject_4 rfl hl (by decide) rfl (fun ls hl => ?_)
  refine lv_aload_n hx hb dX1_layObject_5 rfl (lv_at hl 1 rfl) ?_
  refine lv_iload_n hx hb dX1_layObject_6 rfl (lv_at hl 0 rfl) ?_
  refine lv_iconst (v := 3) hx hb dX1_layObject_7 (by decide) ?_
  refine lv_iload_n hx hb dX1_layObject_8 rfl (lv_at hl 2 rfl) ?_
  obtain ⟨f1, g2, h3, hs⟩ := bWv_some hs
  refine rh_Vv X h (kX1_setCellC l G (cyI := cyI) (cyZ := cyZ) (x := x) h3) (cwV 3 hts gX1_layObject_X1_setCell rfl rfl rfl (by decide +kernel) ⟨Nat.le_of_ble_eq_true rfl, Nat.le_of_ble_eq_true rfl⟩) (va_recv hK h.1 (ci := 1) (q0 := 2) rfl rfl) rfl hl.1 rfl (Nat.le_of_ble_eq_true rfl) dX1_layObject_9 ⟨Nat.zero_le _, Nat.zero_le _⟩ (fun H locs h => ?_)
  refine lv_aload_n hx hb dX1_layObject_12 rfl (lv_at hl 1 rfl) ?_
  refine rh_get X h (v := .ref (ad 10)) iX1_layObject_X1 2 3 rfl rfl (by decide) (by decide +kernel) rfl dX1_layObject_13 ?_
  refine lv_iload_n hx hb dX1_layObject_16 rfl (lv_at hl 0 rfl) ?_
  refine lv_iconst (v := (-1)) hx hb dX1_layObject_17 (by decide) ?_
  obtain ⟨i4, hs⟩ := wt_some hs
  refine rh_iast X h 10 0 rfl rfl i4 dX1_layObject_18 (fun H locs h => ?_)
  have h : rh_W G A s H locs (cw cyI cyZ n x ad f1 (ur g2 6 (upd (g2 6) (f 13).toNatClampNeg (-1)))) := cr_6 h
  refine lv_iconst (v := 1) hx hb dX1_layObject_19 (by decide) ?_
  refine lv_istore_n (lv' := [(3, .int 1), (2, .int (f 13)), (0, .ref (ad 2)), (1, .int p1)]) hx hb dX1_layObject_20 rfl hl (by decide) rfl (fun ls hl => ?_)
  exact bX1_layObject_21 X ret 40  _ _ _ f1 (ur g2 6 (upd (g2 6) (f 13).toNatClampNeg (-1))) p1 (f 13) 1 h (lv_sub hl [2, 3, 1, 0] rfl) hs
theorem kX1_layObject (l : Launch) (G : va_G) {cyI cyZ : ClassId} {n x : Nat} {ad : Nat → Nat} {f : Nat → Int32} {g : Nat → Nat → Int32} {p1 : Int32} {r' : Int32} {f' : Nat → Int32} {g' : Nat → Nat → Int32} (hs : sX1_layObject n ad f g p1 = some (r', f', g')) : rh_Mi l yX1_layObject wsX1_layObject rmX1_layObject G [(cyI, .int), (cyZ, .boolean)] rn_C (cw cyI cyZ n x ad f g) [.ref (ad 2), .int p1] r' (cw cyI cyZ n x ad f' g') :=
  rh_ofi (by decide +kernel) rfl (Nat.le_of_ble_eq_true rfl) (fun p e s m below meth c A Q X ret ls hl h => bX1_layObject X ret _ _ ls f g p1 h hl hs)
abbrev rmX2_isRoot : Room := { frames := 0, cells := 0, slots := 0, locals := 0 }
def sX2_isRoot (p0 : Int32) : Option Int32 := if p0 < 0 then (some (0)) else (if 16 ≤ p0 then (some (0)) else (some (1)))
set_option maxHeartbeats 4000000 in
set_option maxRecDepth 100000 in
theorem bX2_isRoot {p : Program} {l : Launch} {e : Env} {s : State} {m : MethodId} {args : Array Value} {below : List Frame} {meth : Method} {c : Code} {Q : State → Prop} {A : Nat → Prop} {G : va_G} {w : va_W} {tys : List (ClassId × FieldType)} {L0 : List Cond} (X : rh_X p s m args c cX2_isRoot 1 RX2 wsX2_isRoot G tys L0 A) {r' : Int32} (ret : ∀ (H : Heap) (locs : List Loc) (ls : Array Slot) (pc : Nat), narrow .boolean (.int r') = .int r' → decode cX2_isRoot pc = .ok (.ireturn, 1) → rh_W G A s H locs (w) → W p l e rmX2_isRoot s m args below meth c H locs 0 0 Q (F0 m pc ls [.int r'])) : ∀ (H : Heap) (locs : List Loc) (ls : Array Slot) (p0 : Int32), rh_W G A s H locs (w) → lv_has ls 1 [(0, .int p0)] → sX2_isRoot  p0 = some r' → W p l e rmX2_isRoot s m args below meth c H locs 0 0 Q (F0 m 0 ls []) := by
  have hx := X.1
  have hb := X.2.1
  have hown := X.2.2.2.1
  have hts := X.2.2.2.2.1
  have hK := X.2.2.2.2.2.1
  have hNN := X.2.2.2.2.2.2.1.2
  intro H locs ls p0 h hl hs
  unfold sX2_isRoot at hs
  refine lv_iload_n hx hb dX2_isRoot_0 rfl (lv_at hl 0 rfl) ?_
  refine lv_if_lt (tgt := 14) hx hb dX2_isRoot_1 (by decide) (fun c1 => ?_) (fun c1 => ?_)
  · have hs := ite_p c1 hs
    refine lv_iconst (v := 0) hx hb dX2_isRoot_14 (by decide) ?_
    cases hs
    exact ret _ _ _ _ rfl dX2_isRoot_15 h
  · have hs := ite_n c1 hs
    refine lv_iload_n hx hb dX2_isRoot_4 rfl (lv_at hl 0 rfl) ?_
    refine lv_bipush (v := 16) hx hb dX2_isRoot_5 (by decide) ?_
    refine lv_icmp_ge (tgt := 14) hx hb dX2_isRoot_7 (by decide) (fun c2 => ?_) (fun c2 => ?_)
    · have hs := ite_p c2 hs
      refine lv_iconst (v := 0) hx hb dX2_isRoot_14 (by decide) ?_
      cases hs
      exact ret _ _ _ _ rfl dX2_isRoot_15 h
    · have hs := ite_n c2 hs
      refine lv_iconst (v := 1) hx hb dX2_isRoot_10 (by decide) ?_
      refine lv_goto (tgt := 15) hx hb dX2_isRoot_11 (by decide) ?_
      cases hs
      exact ret _ _ _ _ rfl dX2_isRoot_15 h
theorem kX2_isRoot (l : Launch) (G : va_G) {w : va_W} {tys : List (ClassId × FieldType)} {L0 : List Cond} {p0 : Int32} {r' : Int32} (hs : sX2_isRoot  p0 = some r') : rh_Mi l yX2_isRoot wsX2_isRoot rmX2_isRoot G tys L0 (w) [.int p0] r' (w) :=
  rh_ofi (by decide +kernel) rfl (Nat.le_of_ble_eq_true rfl) (fun p e s m below meth c A Q X ret ls hl h => bX2_isRoot X ret _ _ ls p0 h hl hs)
abbrev rmX2_hasField : Room := { frames := 0, cells := 0, slots := 0, locals := 0 }
set_option maxRecDepth 100000 in
theorem iX2_hasField_X1 : ∀ w ∈ u_ws RX1 TX1 5, w ∈ wsX2_hasField := by decide +kernel
set_option maxRecDepth 100000 in
theorem iX2_hasField_X2 : ∀ w ∈ u_ws RX2 TX2 15, w ∈ wsX2_hasField := by decide +kernel
def sX2_hasField (n : Nat) (ad : Nat → Nat) (f : Nat → Int32) (g : Nat → Nat → Int32) (p1 : Int32) (p2 : Int32) : Option Int32 := rd (g 0) 16 p1 (fun v1 => if v1 = 0 then (some (0)) else (if p2 < 0 then (some (0)) else (rd (g 1) 16 p1 (fun v6 => rd (g 5) n v6 (fun v9 => if v9 ≤ p2 then (some (0)) else (some (1)))))))
set_option maxHeartbeats 4000000 in
set_option maxRecDepth 100000 in
theorem bX2_hasField {p : Program} {l : Launch} {e : Env} {s : State} {m : MethodId} {args : Array Value} {below : List Frame} {meth : Method} {c : Code} {Q : State → Prop} {A : Nat → Prop} {G : va_G} {cyI cyZ : ClassId} {n x : Nat} {ad : Nat → Nat} {f : Nat → Int32} {g : Nat → Nat → Int32} (X : rh_X p s m args c cX2_hasField 3 RX2 wsX2_hasField G [(cyI, .int), (cyZ, .boolean)] rn_C A) {r' : Int32} (ret : ∀ (H : Heap) (locs : List Loc) (ls : Array Slot) (pc : Nat), narrow .boolean (.int r') = .int r' → decode cX2_hasField pc = .ok (.ireturn, 1) → rh_W G A s H locs (cw cyI cyZ n x ad f g) → W p l e rmX2_hasField s m args below meth c H locs 0 0 Q (F0 m pc ls [.int r'])) : ∀ (H : Heap) (locs : List Loc) (ls : Array Slot) (p1 : Int32) (p2 : Int32), rh_W G A s H locs (cw cyI cyZ n x ad f g) → lv_has ls 3 [(0, .ref x), (1, .int p1), (2, .int p2)] → sX2_hasField n ad f g p1 p2 = some r' → W p l e rmX2_hasField s m args below meth c H locs 0 0 Q (F0 m 0 ls []) := by
  have hx := X.1
  have hb := X.2.1
  have hown := X.2.2.2.1
  have hts := X.2.2.2.2.1
  have hK := X.2.2.2.2.2.1
  have hNN := X.2.2.2.2.2.2.1.2
  intro H locs ls p1 p2 h hl hs
  unfold sX2_hasField at hs
  refine lv_aload_n hx hb dX2_hasField_0 rfl (lv_at hl 0 rfl) ?_
  refine rh_get X h (v := .ref (ad 4)) iX2_hasField_X2 0 2 rfl rfl (by decide) (by decide +kernel) rfl dX2_hasField_1 ?_
  refine lv_iload_n hx hb dX2_hasField_4 rfl (lv_at hl 1 rfl) ?_
  obtain ⟨i3, v1, e2, hs⟩ := rd_some hs
  refine rh_zald X h 4 1 rfl rfl i3 e2 dX2_hasField_5 ?_
  refine lv_if_eq (tgt := 35) hx hb dX2_hasField_6 (by decide) (fun c4 => ?_) (fun c4 => ?_)
  · have hs := ite_p c4 hs
    refine lv_iconst (v := 0) hx hb dX2_hasField_35 (by decide) ?_
    cases hs
    exact ret _ _ _ _ rfl dX2_hasField_36 h
  · have hs := ite_n c4 hs
    refine lv_iload_n hx hb dX2_hasField_9 rfl (lv_at hl 2 rfl) ?_
    refine lv_if_lt (tgt := 35) hx hb dX2_hasField_10 (by decide) (fun c5 => ?_) (fun c5 => ?_)
    · have hs := ite_p c5 hs
      refine lv_iconst (v := 0) hx hb dX2_hasField_35 (by decide) ?_
      cases hs
      exact ret _ _ _ _ rfl dX2_hasField_36 h
    · have hs := ite_n c5 hs
      refine lv_iload_n hx hb dX2_hasField_13 rfl (lv_at hl 2 rfl) ?_
      refine lv_aload_n hx hb dX2_hasField_14 rfl (lv_at hl 0 rfl) ?_
      refine rh_get X h (v := .ref (ad 2)) iX2_hasField_X2 0 5 rfl rfl (by decide) (by decide +kernel) rfl dX2_hasField_15 ?_
      refine rh_getN (host := RX2) X h (v := .ref (ad 9)) iX2_hasField_X1 2 2 rfl rfl (by decide) (by decide +kernel) rfl dX2_hasField_18 ?_
      refine lv_aload_n hx hb dX2_hasField_21 rfl (lv_at hl 0 rfl) ?_
      refine rh_get X h (v := .ref (ad 5)) iX2_hasField_X2 0 3 rfl rfl (by decide) (by decide +kernel) rfl dX2_hasField_22 ?_
      refine lv_iload_n hx hb dX2_hasField_25 rfl (lv_at hl 1 rfl) ?_
      obtain ⟨i8, v6, e7, hs⟩ := rd_some hs
      refine rh_iald X h 5 0 rfl rfl i8 e7 dX2_hasField_26 ?_
      obtain ⟨i11, v9, e10, hs⟩ := rd_some hs
      refine rh_iald X h 9 0 rfl rfl i11 e10 dX2_hasField_27 ?_
      refine lv_icmp_ge (tgt := 35) hx hb dX2_hasField_28 (by decide) (fun c12 => ?_) (fun c12 => ?_)
      · have hs := ite_p c12 hs
        refine lv_iconst (v := 0) hx hb dX2_hasField_35 (by decide) ?_
        cases hs
        exact ret _ _ _ _ rfl dX2_hasField_36 h
      · have hs := ite_n c12 hs
        refine lv_iconst (v := 1) hx hb dX2_hasField_31 (by decide) ?_
        refine lv_goto (tgt := 36) hx hb dX2_hasField_32 (by decide) ?_
        cases hs
        exact ret _ _ _ _ rfl dX2_hasField_36 h
theorem kX2_hasField (l : Launch) (G : va_G) {cyI cyZ : ClassId} {n x : Nat} {ad : Nat → Nat} {f : Nat → Int32} {g : Nat → Nat → Int32} {p1 : Int32} {p2 : Int32} {r' : Int32} (hs : sX2_hasField n ad f g p1 p2 = some r') : rh_Mi l yX2_hasField wsX2_hasField rmX2_hasField G [(cyI, .int), (cyZ, .boolean)] rn_C (cw cyI cyZ n x ad f g) [.ref x, .int p1, .int p2] r' (cw cyI cyZ n x ad f g) :=
  rh_ofi (by decide +kernel) rfl (Nat.le_of_ble_eq_true rfl) (fun p e s m below meth c A Q X ret ls hl h => bX2_hasField X ret _ _ ls p1 p2 h hl hs)
abbrev rmX2_setRoot : Room := { frames := 0, cells := 0, slots := 0, locals := 0 }
set_option maxRecDepth 100000 in
theorem iX2_setRoot_X2 : ∀ w ∈ u_ws RX2 TX2 15, w ∈ wsX2_setRoot := by decide +kernel
def sX2_setRoot (n : Nat) (ad : Nat → Nat) (f : Nat → Int32) (g : Nat → Nat → Int32) (p1 : Int32) (p2 : Int32) (p3 : Int32) : Option ((Nat → Int32) × (Nat → Nat → Int32)) := wt 16 p1 (wt 16 p1 (some ((f, (ur (ur g 0 (upd (g 0) p1.toNatClampNeg (vp_nar .boolean p2))) 1 (upd (g 1) p1.toNatClampNeg p3))))))
set_option maxHeartbeats 4000000 in
set_option maxRecDepth 100000 in
theorem bX2_setRoot {p : Program} {l : Launch} {e : Env} {s : State} {m : MethodId} {args : Array Value} {below : List Frame} {meth : Method} {c : Code} {Q : State → Prop} {A : Nat → Prop} {G : va_G} {cyI cyZ : ClassId} {n x : Nat} {ad : Nat → Nat} (X : rh_X p s m args c cX2_setRoot 4 RX2 wsX2_setRoot G [(cyI, .int), (cyZ, .boolean)] rn_C A) {f' : Nat → Int32} {g' : Nat → Nat → Int32} (ret : ∀ (H : Heap) (locs : List Loc) (ls : Array Slot) (pc : Nat), decode cX2_setRoot pc = .ok (.return_, 1) → rh_W G A s H locs (cw cyI cyZ n x ad f' g') → W p l e rmX2_setRoot s m args below meth c H locs 0 0 Q (F0 m pc ls [])) : ∀ (H : Heap) (locs : List Loc) (ls : Array Slot) (f : Nat → Int32) (g : Nat → Nat → Int32) (p1 : Int32) (p2 : Int32) (p3 : Int32), rh_W G A s H locs (cw cyI cyZ n x ad f g) → lv_has ls 4 [(0, .ref x), (1, .int p1), (2, .int p2), (3, .int p3)] → sX2_setRoot n ad f g p1 p2 p3 = some (f', g') → W p l e rmX2_setRoot s m args below meth c H locs 0 0 Q (F0 m 0 ls []) := by
  have hx := X.1
  have hb := X.2.1
  have hown := X.2.2.2.1
  have hts := X.2.2.2.2.1
  have hK := X.2.2.2.2.2.1
  have hNN := X.2.2.2.2.2.2.1.2
  intro H locs ls f g p1 p2 p3 h hl hs
  unfold sX2_setRoot at hs
  refine lv_aload_n hx hb dX2_setRoot_0 rfl (lv_at hl 0 rfl) ?_
  refine rh_get X h (v := .ref (ad 4)) iX2_setRoot_X2 0 2 rfl rfl (by decide) (by decide +kernel) rfl dX2_setRoot_1 ?_
  refine lv_iload_n hx hb dX2_setRoot_4 rfl (lv_at hl 1 rfl) ?_
  refine lv_iload_n hx hb dX2_setRoot_5 rfl (lv_at hl 2 rfl) ?_
  obtain ⟨i1, hs⟩ := wt_some hs
  refine rh_zast X h 4 1 rfl rfl i1 dX2_setRoot_6 (fun H locs h => ?_)
  have h : rh_W G A s H locs (cw cyI cyZ n x ad f (ur g 0 (upd (g 0) p1.toNatClampNeg (vp_nar .boolean p2)))) := cr_0 h
  refine lv_aload_n hx hb dX2_setRoot_7 rfl (lv_at hl 0 rfl) ?_
  refine rh_get X h (v := .ref (ad 5)) iX2_setRoot_X2 0 3 rfl rfl (by decide) (by decide +kernel) rfl dX2_setRoot_8 ?_
  refine lv_iload_n hx hb dX2_setRoot_11 rfl (lv_at hl 1 rfl) ?_
  refine lv_iload_n hx hb dX2_setRoot_12 rfl (lv_at hl 3 rfl) ?_
  obtain ⟨i2, hs⟩ := wt_some hs
  refine rh_iast X h 5 0 rfl rfl i2 dX2_setRoot_13 (fun H locs h => ?_)
  have h : rh_W G A s H locs (cw cyI cyZ n x ad f (ur (ur g 0 (upd (g 0) p1.toNatClampNeg (vp_nar .boolean p2))) 1 (upd (g 1) p1.toNatClampNeg p3))) := cr_1 h
  cases hs
  exact ret _ _ _ _ dX2_setRoot_14 h
theorem kX2_setRoot (l : Launch) (G : va_G) {cyI cyZ : ClassId} {n x : Nat} {ad : Nat → Nat} {f : Nat → Int32} {g : Nat → Nat → Int32} {p1 : Int32} {p2 : Int32} {p3 : Int32} {f' : Nat → Int32} {g' : Nat → Nat → Int32} (hs : sX2_setRoot n ad f g p1 p2 p3 = some (f', g')) : rh_Mv l yX2_setRoot wsX2_setRoot rmX2_setRoot G [(cyI, .int), (cyZ, .boolean)] rn_C (cw cyI cyZ n x ad f g) [.ref x, .int p1, .int p2, .int p3] (cw cyI cyZ n x ad f' g') :=
  rh_ofv (by decide +kernel) rfl (Nat.le_of_ble_eq_true rfl) (fun p e s m below meth c A Q X ret ls hl h => bX2_setRoot X ret _ _ ls f g p1 p2 p3 h hl hs)
abbrev rmX2_replicate : Room := { frames := 0, cells := 0, slots := 0, locals := 0 }
set_option maxRecDepth 100000 in
theorem iX2_replicate_X1 : ∀ w ∈ u_ws RX1 TX1 5, w ∈ wsX2_replicate := by decide +kernel
set_option maxRecDepth 100000 in
theorem iX2_replicate_X2 : ∀ w ∈ u_ws RX2 TX2 15, w ∈ wsX2_replicate := by decide +kernel
def sX2_replicate_23 : Nat → Nat → (Nat → Nat) → (Nat → Int32) → (Nat → Nat → Int32) → Int32 → Int32 → Int32 → Int32 → Option (Int32 × (Nat → Int32) × (Nat → Nat → Int32))
  | 0, _, _, _, _, _, _, _, _ => none
  | k + 1, n, ad, f, g, v1, v2, v3, v4 => if v2 ≤ v4 then (wt n v3 (lt ((f 15) + v2) (fun z6 => wt n v1 (some ((v2, (upd f 15 z6), (ur (ur g 9 (upd (g 9) v3.toNatClampNeg (-1))) 6 (upd (g 6) v1.toNatClampNeg v3)))))))) else (rd (g 4) n (v1 + v4) (fun v9 => wt n (v3 + v4) (rd (g 5) n (v1 + v4) (fun v13 => wt n (v3 + v4) (sX2_replicate_23 k n ad f (ur (ur g 7 (upd (g 7) (v3 + v4).toNatClampNeg v9)) 8 (upd (g 8) (v3 + v4).toNatClampNeg v13)) v1 v2 v3 (v4 + 1))))))
set_option maxHeartbeats 4000000 in
set_option maxRecDepth 100000 in
theorem bX2_replicate_23 {p : Program} {l : Launch} {e : Env} {s : State} {m : MethodId} {args : Array Value} {below : List Frame} {meth : Method} {c : Code} {Q : State → Prop} {A : Nat → Prop} {G : va_G} {cyI cyZ : ClassId} {n x : Nat} {ad : Nat → Nat} (X : rh_X p s m args c cX2_replicate 5 RX2 wsX2_replicate G [(cyI, .int), (cyZ, .boolean)] rn_C A) {r' : Int32} {f' : Nat → Int32} {g' : Nat → Nat → Int32} (ret : ∀ (H : Heap) (locs : List Loc) (ls : Array Slot) (pc : Nat), narrow .int (.int r') = .int r' → decode cX2_replicate pc = .ok (.ireturn, 1) → rh_W G A s H locs (cw cyI cyZ n x ad f' g') → W p l e rmX2_replicate s m args below meth c H locs 0 0 Q (F0 m pc ls [.int r'])) : ∀ k : Nat, ∀ (H : Heap) (locs : List Loc) (ls : Array Slot) (f : Nat → Int32) (g : Nat → Nat → Int32) (v1 : Int32) (v2 : Int32) (v3 : Int32) (v4 : Int32), rh_W G A s H locs (cw cyI cyZ n x ad f g) → lv_has ls 5 [(0, .ref x), (1, .int v1), (2, .int v2), (3, .int v3), (4, .int v4)] → sX2_replicate_23 k n ad f g v1 v2 v3 v4 = some (r', f', g') → W p l e rmX2_replicate s m args below meth c H locs 0 0 Q (F0 m 23 ls []) := by
  have hx := X.1
  have hb := X.2.1
  have hown := X.2.2.2.1
  have hts := X.2.2.2.2.1
  have hK := X.2.2.2.2.2.1
  have hNN := X.2.2.2.2.2.2.1.2
  intro k
  induction k with
  | zero => intro H locs ls f g v1 v2 v3 v4 h hl hs; cases hs
  | succ k ih =>
    intro H locs ls f g v1 v2 v3 v4 h hl hs
    simp only [sX2_replicate_23] at hs
    refine lv_iload hx hb dX2_replicate_23 (lv_at hl 4 rfl) ?_
    refine lv_iload_n hx hb dX2_replicate_25 rfl (lv_at hl 2 rfl) ?_
    refine lv_icmp_ge (tgt := 83) hx hb dX2_replicate_26 (by decide) (fun c4 => ?_) (fun c4 => ?_)
    · have hs := ite_p c4 hs
      refine lv_aload_n hx hb dX2_replicate_83 rfl (lv_at hl 0 rfl) ?_
      refine rh_get X h (v := .ref (ad 3)) iX2_replicate_X2 0 6 rfl rfl (by decide) (by decide +kernel) rfl dX2_replicate_84 ?_
      refine rh_getN (host := RX2) X h (v := .ref (ad 13)) iX2_replicate_X1 3 3 rfl rfl (by decide) (by decide +kernel) rfl dX2_replicate_87 ?_
      refine lv_iload_n hx hb dX2_replicate_90 rfl (lv_at hl 3 rfl) ?_
      refine lv_iconst (v := (-1)) hx hb dX2_replicate_91 (by decide) ?_
      obtain ⟨i5, hs⟩ := wt_some hs
      refine rh_iast X h 13 0 rfl rfl i5 dX2_replicate_92 (fun H locs h => ?_)
      have h : rh_W G A s H locs (cw cyI cyZ n x ad f (ur g 9 (upd (g 9) v3.toNatClampNeg (-1)))) := cr_9 h
      refine lv_aload_n hx hb dX2_replicate_93 rfl (lv_at hl 0 rfl) ?_
      refine rh_get X h (v := .ref (ad 3)) iX2_replicate_X2 0 6 rfl rfl (by decide) (by decide +kernel) rfl dX2_replicate_94 ?_
      refine lv_dup hx hb dX2_replicate_97 rfl ?_
      refine rh_getN (host := RX2) X h (v := .int (f 15)) iX2_replicate_X1 3 4 rfl rfl (by decide) (by decide +kernel) rfl dX2_replicate_98 ?_
      refine lv_iload_n hx hb dX2_replicate_101 rfl (lv_at hl 2 rfl) ?_
      refine lv_iadd hx hb dX2_replicate_102 ?_
      obtain ⟨z6, e7, hs⟩ := lt_some hs
      refine rh_top e7 ?_
      refine rh_putN (host := RX2) X h iX2_replicate_X1 tyX1 tyX1_ok nmX1 3 4 rfl rfl (by decide) (by decide +kernel) rfl rfl rfl (Nat.le_of_ble_eq_true rfl) dX2_replicate_103 (fun H locs h => ?_)
      have h : rh_W G A s H locs (cw cyI cyZ n x ad (upd f 15 z6) (ur g 9 (upd (g 9) v3.toNatClampNeg (-1)))) := cp_15 h
      refine lv_aload_n hx hb dX2_replicate_106 rfl (lv_at hl 0 rfl) ?_
      refine rh_get X h (v := .ref (ad 2)) iX2_replicate_X2 0 5 rfl rfl (by decide) (by decide +kernel) rfl dX2_replicate_107 ?_
      refine rh_getN (host := RX2) X h (v := .ref (ad 10)) iX2_replicate_X1 2 3 rfl rfl (by decide) (by decide +kernel) rfl dX2_replicate_110 ?_
      refine lv_iload_n hx hb dX2_replicate_113 rfl (lv_at hl 1 rfl) ?_
      refine lv_iload_n hx hb dX2_replicate_114 rfl (lv_at hl 3 rfl) ?_
      obtain ⟨i8, hs⟩ := wt_some hs
      refine rh_iast X h 10 0 rfl rfl i8 dX2_replicate_115 (fun H locs h => ?_)
      have h : rh_W G A s H locs (cw cyI cyZ n x ad (upd f 15 z6) (ur (ur g 9 (upd (g 9) v3.toNatClampNeg (-1))) 6 (upd (g 6) v1.toNatClampNeg v3))) := cr_6 h
      refine lv_iload_n hx hb dX2_replicate_116 rfl (lv_at hl 2 rfl) ?_
      cases hs
      exact ret _ _ _ _ rfl dX2_replicate_117 h
    · have hs := ite_n c4 hs
      refine lv_aload_n hx hb dX2_replicate_29 rfl (lv_at hl 0 rfl) ?_
      refine rh_get X h (v := .ref (ad 3)) iX2_replicate_X2 0 6 rfl rfl (by decide) (by decide +kernel) rfl dX2_replicate_30 ?_
      refine rh_getN (host := RX2) X h (v := .ref (ad 11)) iX2_replicate_X1 3 1 rfl rfl (by decide) (by decide +kernel) rfl dX2_replicate_33 ?_
      refine lv_iload_n hx hb dX2_replicate_36 rfl (lv_at hl 3 rfl) ?_
      refine lv_iload hx hb dX2_replicate_37 (lv_at hl 4 rfl) ?_
      refine lv_iadd hx hb dX2_replicate_39 ?_
      refine lv_aload_n hx hb dX2_replicate_40 rfl (lv_at hl 0 rfl) ?_
      refine rh_get X h (v := .ref (ad 2)) iX2_replicate_X2 0 5 rfl rfl (by decide) (by decide +kernel) rfl dX2_replicate_41 ?_
      refine rh_getN (host := RX2) X h (v := .ref (ad 8)) iX2_replicate_X1 2 1 rfl rfl (by decide) (by decide +kernel) rfl dX2_replicate_44 ?_
      refine lv_iload_n hx hb dX2_replicate_47 rfl (lv_at hl 1 rfl) ?_
      refine lv_iload hx hb dX2_replicate_48 (lv_at hl 4 rfl) ?_
      refine lv_iadd hx hb dX2_replicate_50 ?_
      obtain ⟨i11, v9, e10, hs⟩ := rd_some hs
      refine rh_iald X h 8 0 rfl rfl i11 e10 dX2_replicate_51 ?_
      obtain ⟨i12, hs⟩ := wt_some hs
      refine rh_iast X h 11 0 rfl rfl i12 dX2_replicate_52 (fun H locs h => ?_)
      have h : rh_W G A s H locs (cw cyI cyZ n x ad f (ur g 7 (upd (g 7) (v3 + v4).toNatClampNeg v9))) := cr_7 h
      refine lv_aload_n hx hb dX2_replicate_53 rfl (lv_at hl 0 rfl) ?_
      refine rh_get X h (v := .ref (ad 3)) iX2_replicate_X2 0 6 rfl rfl (by decide) (by decide +kernel) rfl dX2_replicate_54 ?_
      refine rh_getN (host := RX2) X h (v := .ref (ad 12)) iX2_replicate_X1 3 2 rfl rfl (by decide) (by decide +kernel) rfl dX2_replicate_57 ?_
      refine lv_iload_n hx hb dX2_replicate_60 rfl (lv_at hl 3 rfl) ?_
      refine lv_iload hx hb dX2_replicate_61 (lv_at hl 4 rfl) ?_
      refine lv_iadd hx hb dX2_replicate_63 ?_
      refine lv_aload_n hx hb dX2_replicate_64 rfl (lv_at hl 0 rfl) ?_
      refine rh_get X h (v := .ref (ad 2)) iX2_replicate_X2 0 5 rfl rfl (by decide) (by decide +kernel) rfl dX2_replicate_65 ?_
      refine rh_getN (host := RX2) X h (v := .ref (ad 9)) iX2_replicate_X1 2 2 rfl rfl (by decide) (by decide +kernel) rfl dX2_replicate_68 ?_
      refine lv_iload_n hx hb dX2_replicate_71 rfl (lv_at hl 1 rfl) ?_
      refine lv_iload hx hb dX2_replicate_72 (lv_at hl 4 rfl) ?_
      refine lv_iadd hx hb dX2_replicate_74 ?_
      obtain ⟨i15, v13, e14, hs⟩ := rd_some hs
      refine rh_iald X h 9 0 rfl rfl i15 e14 dX2_replicate_75 ?_
      obtain ⟨i16, hs⟩ := wt_some hs
      refine rh_iast X h 12 0 rfl rfl i16 dX2_replicate_76 (fun H locs h => ?_)
      have h : rh_W G A s H locs (cw cyI cyZ n x ad f (ur (ur g 7 (upd (g 7) (v3 + v4).toNatClampNeg v9)) 8 (upd (g 8) (v3 + v4).toNatClampNeg v13))) := cr_8 h
      refine lv_iinc (v := v4 + 1) (lv' := [(4, .int (v4 + 1)), (0, .ref x), (1, .int v1), (2, .int v2), (3, .int v3)]) hx hb dX2_replicate_77 hl (k := 4) rfl rfl (by decide) rfl (fun ls hl => ?_)
      refine lv_goto (tgt := 23) hx hb dX2_replicate_80 (by decide) ?_
      exact ih _ _ _ f (ur (ur g 7 (upd (g 7) (v3 + v4).toNatClampNeg v9)) 8 (upd (g 8) (v3 + v4).toNatClampNeg v13)) v1 v2 v3 (v4 + 1) h (lv_sub hl [1, 2, 3, 4, 0] rfl) hs
def sX2_replicate (n : Nat) (ad : Nat → Nat) (f : Nat → Int32) (g : Nat → Nat → Int32) (p1 : Int32) : Option (Int32 × (Nat → Int32) × (Nat → Nat → Int32)) := rd (g 5) n p1 (fun v1 => sX2_replicate_23 40 n ad f g p1 (v1 + 1) (f 15) 0)
set_option maxHeartbeats 4000000 in
set_option maxRecDepth 100000 in
theorem bX2_replicate {p : Program} {l : Launch} {e : Env} {s : State} {m : MethodId} {args : Array Value} {below : List Frame} {meth : Method} {c : Code} {Q : State → Prop} {A : Nat → Prop} {G : va_G} {cyI cyZ : ClassId} {n x : Nat} {ad : Nat → Nat} (X : rh_X p s m args c cX2_replicate 5 RX2 wsX2_replicate G [(cyI, .int), (cyZ, .boolean)] rn_C A) {r' : Int32} {f' : Nat → Int32} {g' : Nat → Nat → Int32} (ret : ∀ (H : Heap) (locs : List Loc) (ls : Array Slot) (pc : Nat), narrow .int (.int r') = .int r' → decode cX2_replicate pc = .ok (.ireturn, 1) → rh_W G A s H locs (cw cyI cyZ n x ad f' g') → W p l e rmX2_replicate s m args below meth c H locs 0 0 Q (F0 m pc ls [.int r'])) : ∀ (H : Heap) (locs : List Loc) (ls : Array Slot) (f : Nat → Int32) (g : Nat → Nat → Int32) (p1 : Int32), rh_W G A s H locs (cw cyI cyZ n x ad f g) → lv_has ls 5 [(0, .ref x), (1, .int p1)] → sX2_replicate n ad f g p1 = some (r', f', g') → W p l e rmX2_replicate s m args below meth c H locs 0 0 Q (F0 m 0 ls []) := by
  have hx := X.1
  have hb := X.2.1
  have hown := X.2.2.2.1
  have hts := X.2.2.2.2.1
  have hK := X.2.2.2.2.2.1
  have hNN := X.2.2.2.2.2.2.1.2
  intro H locs ls f g p1 h hl hs
  unfold sX2_replicate at hs
  refine lv_aload_n hx hb dX2_replicate_0 rfl (lv_at hl 0 rfl) ?_
  refine rh_get X h (v := .ref (ad 2)) iX2_replicate_X2 0 5 rfl rfl (by decide) (by decide +kernel) rfl dX2_replicate_1 ?_
  refine rh_getN (host := RX2) X h (v := .ref (ad 9)) iX2_replicate_X1 2 2 rfl rfl (by decide) (by decide +kernel) rfl dX2_replicate_4 ?_
  refine lv_iload_n hx hb dX2_replicate_7 rfl (lv_at hl 1 rfl) ?_
  obtain ⟨i3, v1, e2, hs⟩ := rd_some hs
  refine rh_iald X h 9 0 rfl rfl i3 e2 dX2_replicate_8 ?_
  refine lv_iconst (v := 1) hx hb dX2_replicate_9 (by decide) ?_
  refine lv_iadd hx hb dX2_replicate_10 ?_
  refine lv_istore_n (lv' := [(2, .int (v1 + 1)), (0, .ref x), (1, .int p1)]) hx hb dX2_replicate_11 rfl hl (by decide) rfl (fun ls hl => ?_)
  refine lv_aload_n hx hb dX2_replicate_12 rfl (lv_at hl 1 rfl) ?_
  refine rh_get X h (v := .ref (ad 3)) iX2_replicate_X2 0 6 rfl rfl (by decide) (by decide +kernel) rfl dX2_replicate_13 ?_
  refine rh_getN (host := RX2) X h (v := .int (f 15)) iX2_replicate_X1 3 4 rfl rfl (by decide) (by decide +kernel) rfl dX2_replicate_16 ?_
  refine lv_istore_n (lv' := [(3, .int (f 15)), (2, .int (v1 + 1)), (0, .ref x), (1, .int p1)]) hx hb dX2_replicate_19 rfl hl (by decide) rfl (fun ls hl => ?_)
  refine lv_iconst (v := 0) hx hb dX2_replicate_20 (by decide) ?_
  refine lv_istore (lv' := [(4, .int 0), (3, .int (f 15)), (2, .int (v1 + 1)), (0, .ref x), (1, .int p1)]) hx hb dX2_replicate_21 hl (by decide) rfl (fun ls hl => ?_)
  exact bX2_replicate_23 X ret 40  _ _ _ f g p1 (v1 + 1) (f 15) 0 h (lv_sub hl [3, 4, 2, 1, 0] rfl) hs
theorem kX2_replicate (l : Launch) (G : va_G) {cyI cyZ : ClassId} {n x : Nat} {ad : Nat → Nat} {f : Nat → Int32} {g : Nat → Nat → Int32} {p1 : Int32} {r' : Int32} {f' : Nat → Int32} {g' : Nat → Nat → Int32} (hs : sX2_replicate n ad f g p1 = some (r', f', g')) : rh_Mi l yX2_replicate wsX2_replicate rmX2_replicate G [(cyI, .int), (cyZ, .boolean)] rn_C (cw cyI cyZ n x ad f g) [.ref x, .int p1] r' (cw cyI cyZ n x ad f' g') :=
  rh_ofi (by decide +kernel) rfl (Nat.le_of_ble_eq_true rfl) (fun p e s m below meth c A Q X ret ls hl h => bX2_replicate X ret _ _ ls f g p1 h hl hs)
abbrev rmX2_forward : Room := { frames := 1, cells := 0, slots := 0, locals := 24 }
set_option maxRecDepth 100000 in
theorem iX2_forward_X1 : ∀ w ∈ u_ws RX1 TX1 5, w ∈ wsX2_forward := by decide +kernel
set_option maxRecDepth 100000 in
theorem iX2_forward_X2 : ∀ w ∈ u_ws RX2 TX2 15, w ∈ wsX2_forward := by decide +kernel
def sX2_forward_55 (n : Nat) (ad : Nat → Nat) (f : Nat → Int32) (g : Nat → Nat → Int32) (v1 : Int32) (v2 : Int32) (t0 : Int32) : Option (Int32 × (Nat → Int32) × (Nat → Nat → Int32)) := rd (g 6) n v2 (fun v12 => bWv (sX1_setCellO n ad f g v1 (1 + (f 14)) v12) (fun f15 g16 => some ((t0, f15, g16))))
set_option maxHeartbeats 4000000 in
set_option maxRecDepth 100000 in
theorem bX2_forward_55 {p : Program} {l : Launch} {e : Env} {s : State} {m : MethodId} {args : Array Value} {below : List Frame} {meth : Method} {c : Code} {Q : State → Prop} {A : Nat → Prop} {G : va_G} {cyI cyZ : ClassId} {n x : Nat} {ad : Nat → Nat} (X : rh_X p s m args c cX2_forward 4 RX2 wsX2_forward G [(cyI, .int), (cyZ, .boolean)] rn_C A) {r' : Int32} {f' : Nat → Int32} {g' : Nat → Nat → Int32} (ret : ∀ (H : Heap) (locs : List Loc) (ls : Array Slot) (pc : Nat), narrow .int (.int r') = .int r' → decode cX2_forward pc = .ok (.ireturn, 1) → rh_W G A s H locs (cw cyI cyZ n x ad f' g') → W p l e rmX2_forward s m args below meth c H locs 0 0 Q (F0 m pc ls [.int r'])) : ∀ (H : Heap) (locs : List Loc) (ls : Array Slot) (f : Nat → Int32) (g : Nat → Nat → Int32) (v1 : Int32) (v2 : Int32) (t0 : Int32), rh_W G A s H locs (cw cyI cyZ n x ad f g) → lv_has ls 4 [(0, .ref x), (1, .int v1), (2, .int v2)] → sX2_forward_55 n ad f g v1 v2 t0 = some (r', f', g') → W p l e rmX2_forward s m args below meth c H locs 0 0 Q (F0 m 55 ls [.int t0]) := by
  have hx := X.1
  have hb := X.2.1
  have hown := X.2.2.2.1
  have hts := X.2.2.2.2.1
  have hK := X.2.2.2.2.2.1
  have hNN := X.2.2.2.2.2.2.1.2
  intro H locs ls f g v1 v2 t0 h hl hs
  unfold sX2_forward_55 at hs
  refine lv_istore_n (lv' := [(3, .int t0), (0, .ref x), (1, .int v1), (2, .int v2)]) hx hb dX2_forward_55 rfl hl (by decide) rfl (fun ls hl => ?_)
  refine lv_aload_n hx hb dX2_forward_56 rfl (lv_at hl 1 rfl) ?_
  refine rh_get X h (v := .ref (ad 3)) iX2_forward_X2 0 6 rfl rfl (by decide) (by decide +kernel) rfl dX2_forward_57 ?_
  refine lv_iload_n hx hb dX2_forward_60 rfl (lv_at hl 2 rfl) ?_
  refine lv_iconst (v := 1) hx hb dX2_forward_61 (by decide) ?_
  refine lv_aload_n hx hb dX2_forward_62 rfl (lv_at hl 1 rfl) ?_
  refine rh_get X h (v := .ref (ad 3)) iX2_forward_X2 0 6 rfl rfl (by decide) (by decide +kernel) rfl dX2_forward_63 ?_
  refine rh_getN (host := RX2) X h (v := .int (f 14)) iX2_forward_X1 3 0 rfl rfl (by decide) (by decide +kernel) rfl dX2_forward_66 ?_
  refine lv_iadd hx hb dX2_forward_69 ?_
  refine lv_aload_n hx hb dX2_forward_70 rfl (lv_at hl 1 rfl) ?_
  refine rh_get X h (v := .ref (ad 2)) iX2_forward_X2 0 5 rfl rfl (by decide) (by decide +kernel) rfl dX2_forward_71 ?_
  refine rh_getN (host := RX2) X h (v := .ref (ad 10)) iX2_forward_X1 2 3 rfl rfl (by decide) (by decide +kernel) rfl dX2_forward_74 ?_
  refine lv_iload_n hx hb dX2_forward_77 rfl (lv_at hl 3 rfl) ?_
  obtain ⟨i14, v12, e13, hs⟩ := rd_some hs
  refine rh_iald X h 10 0 rfl rfl i14 e13 dX2_forward_78 ?_
  obtain ⟨f15, g16, h17, hs⟩ := bWv_some hs
  refine rh_Nv X h (kX1_setCellO l G (cyI := cyI) (cyZ := cyZ) (x := x) h17) ⟨va_cnB (host := RX2) 3 hts ggX2_forward_X1_setCell rfl rfl rfl (hNN _ (by decide +kernel)) (hts (.initialized RX1) (by decide +kernel)) (by decide +kernel) ⟨Nat.le_of_ble_eq_true rfl, Nat.le_of_ble_eq_true rfl⟩, hts (.instanceMethod yX1_setCell) (by decide +kernel), hts (.selects RX1 yX1_setCell yX1_setCell) (by decide +kernel)⟩ (va_recv hK h.1 (ci := 1) (q0 := 3) rfl rfl) rfl hl.1 rfl (Nat.le_of_ble_eq_true rfl) dX2_forward_79 ⟨Nat.zero_le _, Nat.zero_le _⟩ (fun H locs h => ?_)
  refine lv_iload_n hx hb dX2_forward_82 rfl (lv_at hl 0 rfl) ?_
  cases hs
  exact ret _ _ _ _ rfl dX2_forward_83 h
def sX2_forward (n : Nat) (ad : Nat → Nat) (f : Nat → Int32) (g : Nat → Nat → Int32) (p1 : Int32) : Option (Int32 × (Nat → Int32) × (Nat → Nat → Int32)) := rd (g 7) n p1 (fun v1 => if v1 = (1 + (f 12)) then (rd (g 8) n p1 (fun v5 => rd (g 6) n v5 (fun v8 => if v8 = (-1) then (bWi (sX2_replicate n ad f g v5) (fun r18 f19 g20 => sX2_forward_55 n ad f19 g20 p1 v5 r18)) else (sX2_forward_55 n ad f g p1 v5 0)))) else (some ((0, f, g))))
set_option maxHeartbeats 4000000 in
set_option maxRecDepth 100000 in
theorem bX2_forward {p : Program} {l : Launch} {e : Env} {s : State} {m : MethodId} {args : Array Value} {below : List Frame} {meth : Method} {c : Code} {Q : State → Prop} {A : Nat → Prop} {G : va_G} {cyI cyZ : ClassId} {n x : Nat} {ad : Nat → Nat} (X : rh_X p s m args c cX2_forward 4 RX2 wsX2_forward G [(cyI, .int), (cyZ, .boolean)] rn_C A) {r' : Int32} {f' : Nat → Int32} {g' : Nat → Nat → Int32} (ret : ∀ (H : Heap) (locs : List Loc) (ls : Array Slot) (pc : Nat), narrow .int (.int r') = .int r' → decode cX2_forward pc = .ok (.ireturn, 1) → rh_W G A s H locs (cw cyI cyZ n x ad f' g') → W p l e rmX2_forward s m args below meth c H locs 0 0 Q (F0 m pc ls [.int r'])) : ∀ (H : Heap) (locs : List Loc) (ls : Array Slot) (f : Nat → Int32) (g : Nat → Nat → Int32) (p1 : Int32), rh_W G A s H locs (cw cyI cyZ n x ad f g) → lv_has ls 4 [(0, .ref x), (1, .int p1)] → sX2_forward n ad f g p1 = some (r', f', g') → W p l e rmX2_forward s m args below meth c H locs 0 0 Q (F0 m 0 ls []) := by
  have hx := X.1
  have hb := X.2.1
  have hown := X.2.2.2.1
  have hts := X.2.2.2.2.1
  have hK := X.2.2.2.2.2.1
  have hNN := X.2.2.2.2.2.2.1.2
  intro H locs ls f g p1 h hl hs
  unfold sX2_forward at hs
  refine lv_aload_n hx hb dX2_forward_0 rfl (lv_at hl 0 rfl) ?_
  refine rh_get X h (v := .ref (ad 3)) iX2_forward_X2 0 6 rfl rfl (by decide) (by decide +kernel) rfl dX2_forward_1 ?_
  refine rh_getN (host := RX2) X h (v := .ref (ad 11)) iX2_forward_X1 3 1 rfl rfl (by decide) (by decide +kernel) rfl dX2_forward_4 ?_
  refine lv_iload_n hx hb dX2_forward_7 rfl (lv_at hl 1 rfl) ?_
  obtain ⟨i3, v1, e2, hs⟩ := rd_some hs
  refine rh_iald X h 11 0 rfl rfl i3 e2 dX2_forward_8 ?_
  refine lv_iconst (v := 1) hx hb dX2_forward_9 (by decide) ?_
  refine lv_aload_n hx hb dX2_forward_10 rfl (lv_at hl 0 rfl) ?_
  refine rh_get X h (v := .ref (ad 2)) iX2_forward_X2 0 5 rfl rfl (by decide) (by decide +kernel) rfl dX2_forward_11 ?_
  refine rh_getN (host := RX2) X h (v := .int (f 12)) iX2_forward_X1 2 0 rfl rfl (by decide) (by decide +kernel) rfl dX2_forward_14 ?_
  refine lv_iadd hx hb dX2_forward_17 ?_
  refine lv_icmp_eq (tgt := 23) hx hb dX2_forward_18 (by decide) (fun c4 => ?_) (fun c4 => ?_)
  · have hs := ite_p c4 hs
    refine lv_aload_n hx hb dX2_forward_23 rfl (lv_at hl 0 rfl) ?_
    refine rh_get X h (v := .ref (ad 3)) iX2_forward_X2 0 6 rfl rfl (by decide) (by decide +kernel) rfl dX2_forward_24 ?_
    refine rh_getN (host := RX2) X h (v := .ref (ad 12)) iX2_forward_X1 3 2 rfl rfl (by decide) (by decide +kernel) rfl dX2_forward_27 ?_
    refine lv_iload_n hx hb dX2_forward_30 rfl (lv_at hl 1 rfl) ?_
    obtain ⟨i7, v5, e6, hs⟩ := rd_some hs
    refine rh_iald X h 12 0 rfl rfl i7 e6 dX2_forward_31 ?_
    refine lv_istore_n (lv' := [(2, .int v5), (0, .ref x), (1, .int p1)]) hx hb dX2_forward_32 rfl hl (by decide) rfl (fun ls hl => ?_)
    refine lv_aload_n hx hb dX2_forward_33 rfl (lv_at hl 1 rfl) ?_
    refine rh_get X h (v := .ref (ad 2)) iX2_forward_X2 0 5 rfl rfl (by decide) (by decide +kernel) rfl dX2_forward_34 ?_
    refine rh_getN (host := RX2) X h (v := .ref (ad 10)) iX2_forward_X1 2 3 rfl rfl (by decide) (by decide +kernel) rfl dX2_forward_37 ?_
    refine lv_iload_n hx hb dX2_forward_40 rfl (lv_at hl 0 rfl) ?_
    obtain ⟨i10, v8, e9, hs⟩ := rd_some hs
    refine rh_iald X h 10 0 rfl rfl i10 e9 dX2_forward_41 ?_
    refine lv_iconst (v := (-1)) hx hb dX2_forward_42 (by decide) ?_
    refine lv_icmp_ne (tgt := 54) hx hb dX2_forward_43 (by decide) (fun c11 => ?_) (fun c11 => ?_)
    · have hs := ite_n c11 hs
      refine lv_iconst (v := 0) hx hb dX2_forward_54 (by decide) ?_
      exact bX2_forward_55 X ret  _ _ _ f g p1 v5 0 h (lv_sub hl [1, 2, 0] rfl) hs
    · have hs := ite_p c11 hs
      refine lv_aload_n hx hb dX2_forward_46 rfl (lv_at hl 1 rfl) ?_
      refine lv_iload_n hx hb dX2_forward_47 rfl (lv_at hl 0 rfl) ?_
      obtain ⟨r18, f19, g20, h21, hs⟩ := bWi_some hs
      refine rh_Vi X h (kX2_replicate l G (cyI := cyI) (cyZ := cyZ) (x := x) h21) (cwV 1 hts gX2_forward_X2_replicate rfl rfl rfl (by decide +kernel) ⟨Nat.le_of_ble_eq_true rfl, Nat.le_of_ble_eq_true rfl⟩) (va_recv hK h.1 (ci := 2) (q0 := 0) rfl rfl) rfl hl.1 rfl (Nat.le_of_ble_eq_true rfl) dX2_forward_48 ⟨Nat.zero_le _, Nat.zero_le _⟩ (fun H locs h => ?_)
      refine lv_goto (tgt := 55) hx hb dX2_forward_51 (by decide) ?_
      exact bX2_forward_55 X ret  _ _ _ f19 g20 p1 v5 r18 h (lv_sub hl [1, 2, 0] rfl) hs
  · have hs := ite_n c4 hs
    refine lv_iconst (v := 0) hx hb dX2_forward_21 (by decide) ?_
    cases hs
    exact ret _ _ _ _ rfl dX2_forward_22 h
theorem kX2_forward (l : Launch) (G : va_G) {cyI cyZ : ClassId} {n x : Nat} {ad : Nat → Nat} {f : Nat → Int32} {g : Nat → Nat → Int32} {p1 : Int32} {r' : Int32} {f' : Nat → Int32} {g' : Nat → Nat → Int32} (hs : sX2_forward n ad f g p1 = some (r', f', g')) : rh_Mi l yX2_forward wsX2_forward rmX2_forward G [(cyI, .int), (cyZ, .boolean)] rn_C (cw cyI cyZ n x ad f g) [.ref x, .int p1] r' (cw cyI cyZ n x ad f' g') :=
  rh_ofi (by decide +kernel) rfl (Nat.le_of_ble_eq_true rfl) (fun p e s m below meth c A Q X ret ls hl h => bX2_forward X ret _ _ ls f g p1 h hl hs)
abbrev rmX2_takeEntry : Room := { frames := 2, cells := 0, slots := 0, locals := 47 }
set_option maxRecDepth 100000 in
theorem iX2_takeEntry_X0 : ∀ w ∈ u_ws RX0 TX0 4, w ∈ wsX2_takeEntry := by decide +kernel
set_option maxRecDepth 100000 in
theorem iX2_takeEntry_X1 : ∀ w ∈ u_ws RX1 TX1 5, w ∈ wsX2_takeEntry := by decide +kernel
set_option maxRecDepth 100000 in
theorem iX2_takeEntry_X2 : ∀ w ∈ u_ws RX2 TX2 15, w ∈ wsX2_takeEntry := by decide +kernel
def sX2_takeEntry (n : Nat) (ad : Nat → Nat) (f : Nat → Int32) (g : Nat → Nat → Int32) : Option (Int32 × (Nat → Int32) × (Nat → Nat → Int32)) := rd (g 2) 512 (f 11) (fun v1 => rd (g 3) 512 (f 11) (fun v4 => lt ((f 11) + 1) (fun z7 => rd (g 6) n v1 (fun v9 => if v9 = (-1) then (some ((1, (upd f 11 z7), g))) else (rd (g 4) n (v1 + (1 + v4)) (fun v13 => rd (g 5) n (v1 + (1 + v4)) (fun v16 => bWv (sX1_setCellO n ad (upd f 11 z7) g (v9 + (1 + v4)) v13 v16) (fun f19 g20 => bWi (sX2_forward n ad f19 g20 (v9 + (1 + v4))) (fun r22 f23 g24 => some ((1 + r22, f23, g24)))))))))))
set_option maxHeartbeats 4000000 in
set_option maxRecDepth 100000 in
theorem bX2_takeEntry {p : Program} {l : Launch} {e : Env} {s : State} {m : MethodId} {args : Array Value} {below : List Frame} {meth : Method} {c : Code} {Q : State → Prop} {A : Nat → Prop} {G : va_G} {cyI cyZ : ClassId} {n x : Nat} {ad : Nat → Nat} (X : rh_X p s m args c cX2_takeEntry 4 RX2 wsX2_takeEntry G [(cyI, .int), (cyZ, .boolean)] rn_C A) {r' : Int32} {f' : Nat → Int32} {g' : Nat → Nat → Int32} (ret : ∀ (H : Heap) (locs : List Loc) (ls : Array Slot) (pc : Nat), narrow .int (.int r') = .int r' → decode cX2_takeEntry pc = .ok (.ireturn, 1) → rh_W G A s H locs (cw cyI cyZ n x ad f' g') → W p l e rmX2_takeEntry s m args below meth c H locs 0 0 Q (F0 m pc ls [.int r'])) : ∀ (H : Heap) (locs : List Loc) (ls : Array Slot) (f : Nat → Int32) (g : Nat → Nat → Int32), rh_W G A s H locs (cw cyI cyZ n x ad f g) → lv_has ls 4 [(0, .ref x)] → sX2_takeEntry n ad f g = some (r', f', g') → W p l e rmX2_takeEntry s m args below meth c H locs 0 0 Q (F0 m 0 ls []) := by
  have hx := X.1
  have hb := X.2.1
  have hown := X.2.2.2.1
  have hts := X.2.2.2.2.1
  have hK := X.2.2.2.2.2.1
  have hNN := X.2.2.2.2.2.2.1.2
  intro H locs ls f g h hl hs
  unfold sX2_takeEntry at hs
  refine lv_aload_n hx hb dX2_takeEntry_0 rfl (lv_at hl 0 rfl) ?_
  refine rh_get X h (v := .ref (ad 1)) iX2_takeEntry_X2 0 4 rfl rfl (by decide) (by decide +kernel) rfl dX2_takeEntry_1 ?_
  refine rh_getN (host := RX2) X h (v := .ref (ad 6)) iX2_takeEntry_X0 1 0 rfl rfl (by decide) (by decide +kernel) rfl dX2_takeEntry_4 ?_
  refine lv_aload_n hx hb dX2_takeEntry_7 rfl (lv_at hl 0 rfl) ?_
  refine rh_get X h (v := .ref (ad 1)) iX2_takeEntry_X2 0 4 rfl rfl (by decide) (by decide +kernel) rfl dX2_takeEntry_8 ?_
  refine rh_getN (host := RX2) X h (v := .int (f 11)) iX2_takeEntry_X0 1 3 rfl rfl (by decide) (by decide +kernel) rfl dX2_takeEntry_11 ?_
  obtain ⟨i3, v1, e2, hs⟩ := rd_some hs
  refine rh_iald X h 6 0 rfl rfl i3 e2 dX2_takeEntry_14 ?_
  refine lv_istore_n (lv' := [(1, .int v1), (0, .ref x)]) hx hb dX2_takeEntry_15 rfl hl (by decide) rfl (fun ls hl => ?_)
  refine lv_iconst (v := 1) hx hb dX2_takeEntry_16 (by decide) ?_
  refine lv_aload_n hx hb dX2_takeEntry_17 rfl (lv_at hl 1 rfl) ?_
  refine rh_get X h (v := .ref (ad 1)) iX2_takeEntry_X2 0 4 rfl rfl (by decide) (by decide +kernel) rfl dX2_takeEntry_18 ?_
  refine rh_getN (host := RX2) X h (v := .ref (ad 7)) iX2_takeEntry_X0 1 1 rfl rfl (by decide) (by decide +kernel) rfl dX2_takeEntry_21 ?_
  refine lv_aload_n hx hb dX2_takeEntry_24 rfl (lv_at hl 1 rfl) ?_
  refine rh_get X h (v := .ref (ad 1)) iX2_takeEntry_X2 0 4 rfl rfl (by decide) (by decide +kernel) rfl dX2_takeEntry_25 ?_
  refine rh_getN (host := RX2) X h (v := .int (f 11)) iX2_takeEntry_X0 1 3 rfl rfl (by decide) (by decide +kernel) rfl dX2_takeEntry_28 ?_
  obtain ⟨i6, v4, e5, hs⟩ := rd_some hs
  refine rh_iald X h 7 0 rfl rfl i6 e5 dX2_takeEntry_31 ?_
  refine lv_iadd hx hb dX2_takeEntry_32 ?_
  refine lv_istore_n (lv' := [(2, .int (1 + v4)), (1, .int v1), (0, .ref x)]) hx hb dX2_takeEntry_33 rfl hl (by decide) rfl (fun ls hl => ?_)
  refine lv_aload_n hx hb dX2_takeEntry_34 rfl (lv_at hl 2 rfl) ?_
  refine rh_get X h (v := .ref (ad 1)) iX2_takeEntry_X2 0 4 rfl rfl (by decide) (by decide +kernel) rfl dX2_takeEntry_35 ?_
  refine lv_dup hx hb dX2_takeEntry_38 rfl ?_
  refine rh_getN (host := RX2) X h (v := .int (f 11)) iX2_takeEntry_X0 1 3 rfl rfl (by decide) (by decide +kernel) rfl dX2_takeEntry_39 ?_
  refine lv_iconst (v := 1) hx hb dX2_takeEntry_42 (by decide) ?_
  refine lv_iadd hx hb dX2_takeEntry_43 ?_
  obtain ⟨z7, e8, hs⟩ := lt_some hs
  refine rh_top e8 ?_
  refine rh_putN (host := RX2) X h iX2_takeEntry_X0 tyX0 tyX0_ok nmX0 1 3 rfl rfl (by decide) (by decide +kernel) rfl rfl rfl (Nat.le_of_ble_eq_true rfl) dX2_takeEntry_44 (fun H locs h => ?_)
  have h : rh_W G A s H locs (cw cyI cyZ n x ad (upd f 11 z7) g) := cp_11 h
  refine lv_aload_n hx hb dX2_takeEntry_47 rfl (lv_at hl 2 rfl) ?_
  refine rh_get X h (v := .ref (ad 2)) iX2_takeEntry_X2 0 5 rfl rfl (by decide) (by decide +kernel) rfl dX2_takeEntry_48 ?_
  refine rh_getN (host := RX2) X h (v := .ref (ad 10)) iX2_takeEntry_X1 2 3 rfl rfl (by decide) (by decide +kernel) rfl dX2_takeEntry_51 ?_
  refine lv_iload_n hx hb dX2_takeEntry_54 rfl (lv_at hl 1 rfl) ?_
  obtain ⟨i11, v9, e10, hs⟩ := rd_some hs
  refine rh_iald X h 10 0 rfl rfl i11 e10 dX2_takeEntry_55 ?_
  refine lv_istore_n (lv' := [(3, .int v9), (2, .int (1 + v4)), (1, .int v1), (0, .ref x)]) hx hb dX2_takeEntry_56 rfl hl (by decide) rfl (fun ls hl => ?_)
  refine lv_iload_n hx hb dX2_takeEntry_57 rfl (lv_at hl 0 rfl) ?_
  refine lv_iconst (v := (-1)) hx hb dX2_takeEntry_58 (by decide) ?_
  refine lv_icmp_ne (tgt := 64) hx hb dX2_takeEntry_59 (by decide) (fun c12 => ?_) (fun c12 => ?_)
  · have hs := ite_n c12 hs
    refine lv_aload_n hx hb dX2_takeEntry_64 rfl (lv_at hl 3 rfl) ?_
    refine rh_get X h (v := .ref (ad 3)) iX2_takeEntry_X2 0 6 rfl rfl (by decide) (by decide +kernel) rfl dX2_takeEntry_65 ?_
    refine lv_iload_n hx hb dX2_takeEntry_68 rfl (lv_at hl 0 rfl) ?_
    refine lv_iload_n hx hb dX2_takeEntry_69 rfl (lv_at hl 1 rfl) ?_
    refine lv_iadd hx hb dX2_takeEntry_70 ?_
    refine lv_aload_n hx hb dX2_takeEntry_71 rfl (lv_at hl 3 rfl) ?_
    refine rh_get X h (v := .ref (ad 2)) iX2_takeEntry_X2 0 5 rfl rfl (by decide) (by decide +kernel) rfl dX2_takeEntry_72 ?_
    refine rh_getN (host := RX2) X h (v := .ref (ad 8)) iX2_takeEntry_X1 2 1 rfl rfl (by decide) (by decide +kernel) rfl dX2_takeEntry_75 ?_
    refine lv_iload_n hx hb dX2_takeEntry_78 rfl (lv_at hl 2 rfl) ?_
    refine lv_iload_n hx hb dX2_takeEntry_79 rfl (lv_at hl 1 rfl) ?_
    refine lv_iadd hx hb dX2_takeEntry_80 ?_
    obtain ⟨i15, v13, e14, hs⟩ := rd_some hs
    refine rh_iald X h 8 0 rfl rfl i15 e14 dX2_takeEntry_81 ?_
    refine lv_aload_n hx hb dX2_takeEntry_82 rfl (lv_at hl 3 rfl) ?_
    refine rh_get X h (v := .ref (ad 2)) iX2_takeEntry_X2 0 5 rfl rfl (by decide) (by decide +kernel) rfl dX2_takeEntry_83 ?_
    refine rh_getN (host := RX2) X h (v := .ref (ad 9)) iX2_takeEntry_X1 2 2 rfl rfl (by decide) (by decide +kernel) rfl dX2_takeEntry_86 ?_
    refine lv_iload_n hx hb dX2_takeEntry_89 rfl (lv_at hl 2 rfl) ?_
    refine lv_iload_n hx hb dX2_takeEntry_90 rfl (lv_at hl 1 rfl) ?_
    refine lv_iadd hx hb dX2_takeEntry_91 ?_
    obtain ⟨i18, v16, e17, hs⟩ := rd_some hs
    refine rh_iald X h 9 0 rfl rfl i18 e17 dX2_takeEntry_92 ?_
    obtain ⟨f19, g20, h21, hs⟩ := bWv_some hs
    refine rh_Nv X h (kX1_setCellO l G (cyI := cyI) (cyZ := cyZ) (x := x) h21) ⟨va_cnB (host := RX2) 3 hts ggX2_takeEntry_X1_setCell rfl rfl rfl (hNN _ (by decide +kernel)) (hts (.initialized RX1) (by decide +kernel)) (by decide +kernel) ⟨Nat.le_of_ble_eq_true rfl, Nat.le_of_ble_eq_true rfl⟩, hts (.instanceMethod yX1_setCell) (by decide +kernel), hts (.selects RX1 yX1_setCell yX1_setCell) (by decide +kernel)⟩ (va_recv hK h.1 (ci := 1) (q0 := 3) rfl rfl) rfl hl.1 rfl (Nat.le_of_ble_eq_true rfl) dX2_takeEntry_93 ⟨Nat.zero_le _, Nat.zero_le _⟩ (fun H locs h => ?_)
    refine lv_iconst (v := 1) hx hb dX2_takeEntry_96 (by decide) ?_
    refine lv_aload_n hx hb dX2_takeEntry_97 rfl (lv_at hl 3 rfl) ?_
    refine lv_iload_n hx hb dX2_takeEntry_98 rfl (lv_at hl 0 rfl) ?_
    refine lv_iload_n hx hb dX2_takeEntry_99 rfl (lv_at hl 1 rfl) ?_
    refine lv_iadd hx hb dX2_takeEntry_100 ?_
    obtain ⟨r22, f23, g24, h25, hs⟩ := bWi_some hs
    refine rh_Vi X h (kX2_forward l G (cyI := cyI) (cyZ := cyZ) (x := x) h25) (cwV 1 hts gX2_takeEntry_X2_forward rfl rfl rfl (by decide +kernel) ⟨Nat.le_of_ble_eq_true rfl, Nat.le_of_ble_eq_true rfl⟩) (va_recv hK h.1 (ci := 2) (q0 := 0) rfl rfl) rfl hl.1 rfl (Nat.le_of_ble_eq_true rfl) dX2_takeEntry_101 ⟨Nat.zero_le _, Nat.zero_le _⟩ (fun H locs h => ?_)
    refine lv_iadd hx hb dX2_takeEntry_104 ?_
    cases hs
    exact ret _ _ _ _ rfl dX2_takeEntry_105 h
  · have hs := ite_p c12 hs
    refine lv_iconst (v := 1) hx hb dX2_takeEntry_62 (by decide) ?_
    cases hs
    exact ret _ _ _ _ rfl dX2_takeEntry_63 h
theorem kX2_takeEntry (l : Launch) (G : va_G) {cyI cyZ : ClassId} {n x : Nat} {ad : Nat → Nat} {f : Nat → Int32} {g : Nat → Nat → Int32} {r' : Int32} {f' : Nat → Int32} {g' : Nat → Nat → Int32} (hs : sX2_takeEntry n ad f g = some (r', f', g')) : rh_Mi l yX2_takeEntry wsX2_takeEntry rmX2_takeEntry G [(cyI, .int), (cyZ, .boolean)] rn_C (cw cyI cyZ n x ad f g) [.ref x] r' (cw cyI cyZ n x ad f' g') :=
  rh_ofi (by decide +kernel) rfl (Nat.le_of_ble_eq_true rfl) (fun p e s m below meth c A Q X ret ls hl h => bX2_takeEntry X ret _ _ ls f g h hl hs)
abbrev rmX2_rootWithoutReplica : Room := { frames := 0, cells := 0, slots := 0, locals := 0 }
set_option maxRecDepth 100000 in
theorem iX2_rootWithoutReplica_X1 : ∀ w ∈ u_ws RX1 TX1 5, w ∈ wsX2_rootWithoutReplica := by decide +kernel
set_option maxRecDepth 100000 in
theorem iX2_rootWithoutReplica_X2 : ∀ w ∈ u_ws RX2 TX2 15, w ∈ wsX2_rootWithoutReplica := by decide +kernel
def sX2_rootWithoutReplica_2 : Nat → Nat → (Nat → Nat) → (Nat → Int32) → (Nat → Nat → Int32) → Int32 → Option Int32
  | 0, _, _, _, _, _ => none
  | k + 1, n, ad, f, g, v1 => if 16 ≤ v1 then (some ((-1))) else (rd (g 0) 16 v1 (fun v2 => if v2 = 0 then (sX2_rootWithoutReplica_2 k n ad f g (v1 + 1)) else (rd (g 1) 16 v1 (fun v6 => rd (g 6) n v6 (fun v9 => if v9 = (-1) then (some v1) else (sX2_rootWithoutReplica_2 k n ad f g (v1 + 1)))))))
set_option maxHeartbeats 4000000 in
set_option maxRecDepth 100000 in
theorem bX2_rootWithoutReplica_2 {p : Program} {l : Launch} {e : Env} {s : State} {m : MethodId} {args : Array Value} {below : List Frame} {meth : Method} {c : Code} {Q : State → Prop} {A : Nat → Prop} {G : va_G} {cyI cyZ : ClassId} {n x : Nat} {ad : Nat → Nat} {f : Nat → Int32} {g : Nat → Nat → Int32} (X : rh_X p s m args c cX2_rootWithoutReplica 2 RX2 wsX2_rootWithoutReplica G [(cyI, .int), (cyZ, .boolean)] rn_C A) {r' : Int32} (ret : ∀ (H : Heap) (locs : List Loc) (ls : Array Slot) (pc : Nat), narrow .int (.int r') = .int r' → decode cX2_rootWithoutReplica pc = .ok (.ireturn, 1) → rh_W G A s H locs (cw cyI cyZ n x ad f g) → W p l e rmX2_rootWithoutReplica s m args below meth c H locs 0 0 Q (F0 m pc ls [.int r'])) : ∀ k : Nat, ∀ (H : Heap) (locs : List Loc) (ls : Array Slot) (v1 : Int32), rh_W G A s H locs (cw cyI cyZ n x ad f g) → lv_has ls 2 [(0, .ref x), (1, .int v1)] → sX2_rootWithoutReplica_2 k n ad f g v1 = some r' → W p l e rmX2_rootWithoutReplica s m args below meth c H locs 0 0 Q (F0 m 2 ls []) := by
  have hx := X.1
  have hb := X.2.1
  have hown := X.2.2.2.1
  have hts := X.2.2.2.2.1
  have hK := X.2.2.2.2.2.1
  have hNN := X.2.2.2.2.2.2.1.2
  intro k
  induction k with
  | zero => intro H locs ls v1 h hl hs; cases hs
  | succ k ih =>
    intro H locs ls v1 h hl hs
    simp only [sX2_rootWithoutReplica_2] at hs
    refine lv_iload_n hx hb dX2_rootWithoutReplica_2 rfl (lv_at hl 1 rfl) ?_
    refine lv_bipush (v := 16) hx hb dX2_rootWithoutReplica_3 (by decide) ?_
    refine lv_icmp_ge (tgt := 43) hx hb dX2_rootWithoutReplica_5 (by decide) (fun c1 => ?_) (fun c1 => ?_)
    · have hs := ite_p c1 hs
      refine lv_iconst (v := (-1)) hx hb dX2_rootWithoutReplica_43 (by decide) ?_
      cases hs
      exact ret _ _ _ _ rfl dX2_rootWithoutReplica_44 h
    · have hs := ite_n c1 hs
      refine lv_aload_n hx hb dX2_rootWithoutReplica_8 rfl (lv_at hl 0 rfl) ?_
      refine rh_get X h (v := .ref (ad 4)) iX2_rootWithoutReplica_X2 0 2 rfl rfl (by decide) (by decide +kernel) rfl dX2_rootWithoutReplica_9 ?_
      refine lv_iload_n hx hb dX2_rootWithoutReplica_12 rfl (lv_at hl 1 rfl) ?_
      obtain ⟨i4, v2, e3, hs⟩ := rd_some hs
      refine rh_zald X h 4 1 rfl rfl i4 e3 dX2_rootWithoutReplica_13 ?_
      refine lv_if_eq (tgt := 37) hx hb dX2_rootWithoutReplica_14 (by decide) (fun c5 => ?_) (fun c5 => ?_)
      · have hs := ite_p c5 hs
        refine lv_iinc (v := v1 + 1) (lv' := [(1, .int (v1 + 1)), (0, .ref x)]) hx hb dX2_rootWithoutReplica_37 hl (k := 1) rfl rfl (by decide) rfl (fun ls hl => ?_)
        refine lv_goto (tgt := 2) hx hb dX2_rootWithoutReplica_40 (by decide) ?_
        exact ih _ _ _  (v1 + 1) h (lv_sub hl [1, 0] rfl) hs
      · have hs := ite_n c5 hs
        refine lv_aload_n hx hb dX2_rootWithoutReplica_17 rfl (lv_at hl 0 rfl) ?_
        refine rh_get X h (v := .ref (ad 2)) iX2_rootWithoutReplica_X2 0 5 rfl rfl (by decide) (by decide +kernel) rfl dX2_rootWithoutReplica_18 ?_
        refine rh_getN (host := RX2) X h (v := .ref (ad 10)) iX2_rootWithoutReplica_X1 2 3 rfl rfl (by decide) (by decide +kernel) rfl dX2_rootWithoutReplica_21 ?_
        refine lv_aload_n hx hb dX2_rootWithoutReplica_24 rfl (lv_at hl 0 rfl) ?_
        refine rh_get X h (v := .ref (ad 5)) iX2_rootWithoutReplica_X2 0 3 rfl rfl (by decide) (by decide +kernel) rfl dX2_rootWithoutReplica_25 ?_
        refine lv_iload_n hx hb dX2_rootWithoutReplica_28 rfl (lv_at hl 1 rfl) ?_
        obtain ⟨i8, v6, e7, hs⟩ := rd_some hs
        refine rh_iald X h 5 0 rfl rfl i8 e7 dX2_rootWithoutReplica_29 ?_
        obtain ⟨i11, v9, e10, hs⟩ := rd_some hs
        refine rh_iald X h 10 0 rfl rfl i11 e10 dX2_rootWithoutReplica_30 ?_
        refine lv_iconst (v := (-1)) hx hb dX2_rootWithoutReplica_31 (by decide) ?_
        refine lv_icmp_ne (tgt := 37) hx hb dX2_rootWithoutReplica_32 (by decide) (fun c12 => ?_) (fun c12 => ?_)
        · have hs := ite_n c12 hs
          refine lv_iinc (v := v1 + 1) (lv' := [(1, .int (v1 + 1)), (0, .ref x)]) hx hb dX2_rootWithoutReplica_37 hl (k := 1) rfl rfl (by decide) rfl (fun ls hl => ?_)
          refine lv_goto (tgt := 2) hx hb dX2_rootWithoutReplica_40 (by decide) ?_
          exact ih _ _ _  (v1 + 1) h (lv_sub hl [1, 0] rfl) hs
        · have hs := ite_p c12 hs
          refine lv_iload_n hx hb dX2_rootWithoutReplica_35 rfl (lv_at hl 1 rfl) ?_
          cases hs
          exact ret _ _ _ _ rfl dX2_rootWithoutReplica_36 h
def sX2_rootWithoutReplica (n : Nat) (ad : Nat → Nat) (f : Nat → Int32) (g : Nat → Nat → Int32) : Option Int32 := sX2_rootWithoutReplica_2 40 n ad f g 0
set_option maxHeartbeats 4000000 in
set_option maxRecDepth 100000 in
theorem bX2_rootWithoutReplica {p : Program} {l : Launch} {e : Env} {s : State} {m : MethodId} {args : Array Value} {below : List Frame} {meth : Method} {c : Code} {Q : State → Prop} {A : Nat → Prop} {G : va_G} {cyI cyZ : ClassId} {n x : Nat} {ad : Nat → Nat} {f : Nat → Int32} {g : Nat → Nat → Int32} (X : rh_X p s m args c cX2_rootWithoutReplica 2 RX2 wsX2_rootWithoutReplica G [(cyI, .int), (cyZ, .boolean)] rn_C A) {r' : Int32} (ret : ∀ (H : Heap) (locs : List Loc) (ls : Array Slot) (pc : Nat), narrow .int (.int r') = .int r' → decode cX2_rootWithoutReplica pc = .ok (.ireturn, 1) → rh_W G A s H locs (cw cyI cyZ n x ad f g) → W p l e rmX2_rootWithoutReplica s m args below meth c H locs 0 0 Q (F0 m pc ls [.int r'])) : ∀ (H : Heap) (locs : List Loc) (ls : Array Slot), rh_W G A s H locs (cw cyI cyZ n x ad f g) → lv_has ls 2 [(0, .ref x)] → sX2_rootWithoutReplica n ad f g = some r' → W p l e rmX2_rootWithoutReplica s m args below meth c H locs 0 0 Q (F0 m 0 ls []) := by
  have hx := X.1
  have hb := X.2.1
  have hown := X.2.2.2.1
  have hts := X.2.2.2.2.1
  have hK := X.2.2.2.2.2.1
  have hNN := X.2.2.2.2.2.2.1.2
  intro H locs ls h hl hs
  unfold sX2_rootWithoutReplica at hs
  refine lv_iconst (v := 0) hx hb dX2_rootWithoutReplica_0 (by decide) ?_
  refine lv_istore_n (lv' := [(1, .int 0), (0, .ref x)]) hx hb dX2_rootWithoutReplica_1 rfl hl (by decide) rfl (fun ls hl => ?_)
  exact bX2_rootWithoutReplica_2 X ret 40  _ _ _  0 h (lv_sub hl [1, 0] rfl) hs
theorem kX2_rootWithoutReplica (l : Launch) (G : va_G) {cyI cyZ : ClassId} {n x : Nat} {ad : Nat → Nat} {f : Nat → Int32} {g : Nat → Nat → Int32} {r' : Int32} (hs : sX2_rootWithoutReplica n ad f g = some r') : rh_Mi l yX2_rootWithoutReplica wsX2_rootWithoutReplica rmX2_rootWithoutReplica G [(cyI, .int), (cyZ, .boolean)] rn_C (cw cyI cyZ n x ad f g) [.ref x] r' (cw cyI cyZ n x ad f g) :=
  rh_ofi (by decide +kernel) rfl (Nat.le_of_ble_eq_true rfl) (fun p e s m below meth c A Q X ret ls hl h => bX2_rootWithoutReplica X ret _ _ ls h hl hs)
abbrev rmX2_flip : Room := { frames := 1, cells := 0, slots := 0, locals := 20 }
set_option maxRecDepth 100000 in
theorem iX2_flip_X1 : ∀ w ∈ u_ws RX1 TX1 5, w ∈ wsX2_flip := by decide +kernel
set_option maxRecDepth 100000 in
theorem iX2_flip_X2 : ∀ w ∈ u_ws RX2 TX2 15, w ∈ wsX2_flip := by decide +kernel
def sX2_flip_2 : Nat → Nat → (Nat → Nat) → (Nat → Int32) → (Nat → Nat → Int32) → Int32 → Option ((Nat → Nat) × (Nat → Int32) × (Nat → Nat → Int32))
  | 0, _, _, _, _, _ => none
  | k + 1, n, ad, f, g, v1 => if 16 ≤ v1 then (bWv (sX0_clear n (swA ad) (upd (upd (upd (swF f) 15 0) 2 0) 3 0) (swG g)) (fun f2 g3 => lt ((f2 4) + 1) (fun z5 => some (((swA ad), (upd f2 4 z5), g3))))) else (rd (g 0) 16 v1 (fun v7 => if v7 = 0 then (sX2_flip_2 k n ad f g (v1 + 1)) else (rd (g 1) 16 v1 (fun v11 => rd (g 6) n v11 (fun v14 => wt 16 v1 (sX2_flip_2 k n ad f (ur g 1 (upd (g 1) v1.toNatClampNeg v14)) (v1 + 1)))))))
set_option maxHeartbeats 4000000 in
set_option maxRecDepth 100000 in
theorem bX2_flip_2 {p : Program} {l : Launch} {e : Env} {s : State} {m : MethodId} {args : Array Value} {below : List Frame} {meth : Method} {c : Code} {Q : State → Prop} {A : Nat → Prop} {G : va_G} {cyI cyZ : ClassId} {n x : Nat} (X : rh_X p s m args c cX2_flip 2 RX2 wsX2_flip G [(cyI, .int), (cyZ, .boolean)] rn_C A) {ad' : Nat → Nat} {f' : Nat → Int32} {g' : Nat → Nat → Int32} (ret : ∀ (H : Heap) (locs : List Loc) (ls : Array Slot) (pc : Nat), decode cX2_flip pc = .ok (.return_, 1) → rh_W G A s H locs (cw cyI cyZ n x ad' f' g') → W p l e rmX2_flip s m args below meth c H locs 0 0 Q (F0 m pc ls [])) : ∀ k : Nat, ∀ (H : Heap) (locs : List Loc) (ls : Array Slot) (ad : Nat → Nat) (f : Nat → Int32) (g : Nat → Nat → Int32) (v1 : Int32), rh_W G A s H locs (cw cyI cyZ n x ad f g) → lv_has ls 2 [(0, .ref x), (1, .int v1)] → sX2_flip_2 k n ad f g v1 = some (ad', f', g') → W p l e rmX2_flip s m args below meth c H locs 0 0 Q (F0 m 2 ls []) := by
  have hx := X.1
  have hb := X.2.1
  have hown := X.2.2.2.1
  have hts := X.2.2.2.2.1
  have hK := X.2.2.2.2.2.1
  have hNN := X.2.2.2.2.2.2.1.2
  intro k
  induction k with
  | zero => intro H locs ls ad f g v1 h hl hs; cases hs
  | succ k ih =>
    intro H locs ls ad f g v1 h hl hs
    simp only [sX2_flip_2] at hs
    refine lv_iload_n hx hb dX2_flip_2 rfl (lv_at hl 1 rfl) ?_
    refine lv_bipush (v := 16) hx hb dX2_flip_3 (by decide) ?_
    refine lv_icmp_ge (tgt := 43) hx hb dX2_flip_5 (by decide) (fun c1 => ?_) (fun c1 => ?_)
    · have hs := ite_p c1 hs
      refine lv_aload_n hx hb dX2_flip_43 rfl (lv_at hl 0 rfl) ?_
      refine rh_get X h (v := .ref (ad 2)) iX2_flip_X2 0 5 rfl rfl (by decide) (by decide +kernel) rfl dX2_flip_44 ?_
      refine lv_astore_n (lv' := [(1, .ref (ad 2)), (0, .ref x)]) hx hb dX2_flip_47 rfl hl (by decide) rfl (fun ls hl => ?_)
      refine lv_aload_n hx hb dX2_flip_48 rfl (lv_at hl 1 rfl) ?_
      refine lv_aload_n hx hb dX2_flip_49 rfl (lv_at hl 1 rfl) ?_
      refine rh_get X h (v := .ref (ad 3)) iX2_flip_X2 0 6 rfl rfl (by decide) (by decide +kernel) rfl dX2_flip_50 ?_
      refine rh_put X h iX2_flip_X2 tyX2 tyX2_ok nmX2 0 5 rfl rfl (by decide) (by decide +kernel) rfl rfl rfl (Nat.le_of_ble_eq_true rfl) dX2_flip_53 (fun H locs h => ?_)
      have h : rh_W G A s H locs (cwx cyI cyZ n x ad (ad 3) (ad 3) f g) := h
      refine lv_aload_n hx hb dX2_flip_56 rfl (lv_at hl 1 rfl) ?_
      refine lv_aload_n hx hb dX2_flip_57 rfl (lv_at hl 0 rfl) ?_
      refine rh_put X h iX2_flip_X2 tyX2 tyX2_ok nmX2 0 6 rfl rfl (by decide) (by decide +kernel) rfl rfl rfl (Nat.le_of_ble_eq_true rfl) dX2_flip_58 (fun H locs h => ?_)
      have h : rh_W G A s H locs (cwx cyI cyZ n x ad (ad 3) (ad 2) f g) := h
      have h := rh_swap h
      refine lv_aload_n hx hb dX2_flip_61 rfl (lv_at hl 1 rfl) ?_
      refine rh_get X h (v := .ref ((swA ad) 3)) iX2_flip_X2 0 6 rfl rfl (by decide) (by decide +kernel) rfl dX2_flip_62 ?_
      refine lv_iconst (v := 0) hx hb dX2_flip_65 (by decide) ?_
      refine rh_putN (host := RX2) X h iX2_flip_X1 tyX1 tyX1_ok nmX1 3 4 rfl rfl (by decide) (by decide +kernel) rfl rfl rfl (Nat.le_of_ble_eq_true rfl) dX2_flip_66 (fun H locs h => ?_)
      have h : rh_W G A s H locs (cw cyI cyZ n x (swA ad) (upd (swF f) 15 0) (swG g)) := cp_15 h
      refine lv_aload_n hx hb dX2_flip_69 rfl (lv_at hl 1 rfl) ?_
      refine lv_iconst (v := 0) hx hb dX2_flip_70 (by decide) ?_
      refine rh_put X h iX2_flip_X2 tyX2 tyX2_ok nmX2 0 7 rfl rfl (by decide) (by decide +kernel) rfl rfl rfl (Nat.le_of_ble_eq_true rfl) dX2_flip_71 (fun H locs h => ?_)
      have h : rh_W G A s H locs (cw cyI cyZ n x (swA ad) (upd (upd (swF f) 15 0) 2 0) (swG g)) := cp_2 h
      refine lv_aload_n hx hb dX2_flip_74 rfl (lv_at hl 1 rfl) ?_
      refine lv_iconst (v := 0) hx hb dX2_flip_75 (by decide) ?_
      refine rh_put X h iX2_flip_X2 tyX2 tyX2_ok nmX2 0 8 rfl rfl (by decide) (by decide +kernel) rfl rfl rfl (Nat.le_of_ble_eq_true rfl) dX2_flip_76 (fun H locs h => ?_)
      have h : rh_W G A s H locs (cw cyI cyZ n x (swA ad) (upd (upd (upd (swF f) 15 0) 2 0) 3 0) (swG g)) := cp_3 h
      refine lv_aload_n hx hb dX2_flip_79 rfl (lv_at hl 1 rfl) ?_
      refine rh_get X h (v := .ref ((swA ad) 1)) iX2_flip_X2 0 4 rfl rfl (by decide) (by decide +kernel) rfl dX2_flip_80 ?_
      obtain ⟨f2, g3, h4, hs⟩ := bWv_some hs
      refine rh_Nv X h (kX0_clear l G (cyI := cyI) (cyZ := cyZ) (x := x) h4) ⟨va_cnB (host := RX2) 0 hts ggX2_flip_X0_clear rfl rfl rfl (hNN _ (by decide +kernel)) (hts (.initialized RX0) (by decide +kernel)) (by decide +kernel) ⟨Nat.le_of_ble_eq_true rfl, Nat.le_of_ble_eq_true rfl⟩, hts (.instanceMethod yX0_clear) (by decide +kernel), hts (.selects RX0 yX0_clear yX0_clear) (by decide +kernel)⟩ (va_recv hK h.1 (ci := 0) (q0 := 1) rfl rfl) rfl hl.1 rfl (Nat.le_of_ble_eq_true rfl) dX2_flip_83 ⟨Nat.zero_le _, Nat.zero_le _⟩ (fun H locs h => ?_)
      refine lv_aload_n hx hb dX2_flip_86 rfl (lv_at hl 1 rfl) ?_
      refine lv_dup hx hb dX2_flip_87 rfl ?_
      refine rh_get X h (v := .int (f2 4)) iX2_flip_X2 0 9 rfl rfl (by decide) (by decide +kernel) rfl dX2_flip_88 ?_
      refine lv_iconst (v := 1) hx hb dX2_flip_91 (by decide) ?_
      refine lv_iadd hx hb dX2_flip_92 ?_
      obtain ⟨z5, e6, hs⟩ := lt_some hs
      refine rh_top e6 ?_
      refine rh_put X h iX2_flip_X2 tyX2 tyX2_ok nmX2 0 9 rfl rfl (by decide) (by decide +kernel) rfl rfl rfl (Nat.le_of_ble_eq_true rfl) dX2_flip_93 (fun H locs h => ?_)
      have h : rh_W G A s H locs (cw cyI cyZ n x (swA ad) (upd f2 4 z5) g3) := cp_4 h
      cases hs
      exact ret _ _ _ _ dX2_flip_96 h
    · have hs := ite_n c1 hs
      refine lv_aload_n hx hb dX2_flip_8 rfl (lv_at hl 0 rfl) ?_
      refine rh_get X h (v := .ref (ad 4)) iX2_flip_X2 0 2 rfl rfl (by decide) (by decide +kernel) rfl dX2_flip_9 ?_
      refine lv_iload_n hx hb dX2_flip_12 rfl (lv_at hl 1 rfl) ?_
      obtain ⟨i9, v7, e8, hs⟩ := rd_some hs
      refine rh_zald X h 4 1 rfl rfl i9 e8 dX2_flip_13 ?_
      refine lv_if_eq (tgt := 37) hx hb dX2_flip_14 (by decide) (fun c10 => ?_) (fun c10 => ?_)
      · have hs := ite_p c10 hs
        refine lv_iinc (v := v1 + 1) (lv' := [(1, .int (v1 + 1)), (0, .ref x)]) hx hb dX2_flip_37 hl (k := 1) rfl rfl (by decide) rfl (fun ls hl => ?_)
        refine lv_goto (tgt := 2) hx hb dX2_flip_40 (by decide) ?_
        exact ih _ _ _ ad f g (v1 + 1) h (lv_sub hl [1, 0] rfl) hs
      · have hs := ite_n c10 hs
        refine lv_aload_n hx hb dX2_flip_17 rfl (lv_at hl 0 rfl) ?_
        refine rh_get X h (v := .ref (ad 5)) iX2_flip_X2 0 3 rfl rfl (by decide) (by decide +kernel) rfl dX2_flip_18 ?_
        refine lv_iload_n hx hb dX2_flip_21 rfl (lv_at hl 1 rfl) ?_
        refine lv_aload_n hx hb dX2_flip_22 rfl (lv_at hl 0 rfl) ?_
        refine rh_get X h (v := .ref (ad 2)) iX2_flip_X2 0 5 rfl rfl (by decide) (by decide +kernel) rfl dX2_flip_23 ?_
        refine rh_getN (host := RX2) X h (v := .ref (ad 10)) iX2_flip_X1 2 3 rfl rfl (by decide) (by decide +kernel) rfl dX2_flip_26 ?_
        refine lv_aload_n hx hb dX2_flip_29 rfl (lv_at hl 0 rfl) ?_
        refine rh_get X h (v := .ref (ad 5)) iX2_flip_X2 0 3 rfl rfl (by decide) (by decide +kernel) rfl dX2_flip_30 ?_
        refine lv_iload_n hx hb dX2_flip_33 rfl (lv_at hl 1 rfl) ?_
        obtain ⟨i13, v11, e12, hs⟩ := rd_some hs
        refine rh_iald X h 5 0 rfl rfl i13 e12 dX2_flip_34 ?_
        obtain ⟨i16, v14, e15, hs⟩ := rd_some hs
        refine rh_iald X h 10 0 rfl rfl i16 e15 dX2_flip_35 ?_
        obtain ⟨i17, hs⟩ := wt_some hs
        refine rh_iast X h 5 0 rfl rfl i17 dX2_flip_36 (fun H locs h => ?_)
        have h : rh_W G A s H locs (cw cyI cyZ n x ad f (ur g 1 (upd (g 1) v1.toNatClampNeg v14))) := cr_1 h
        refine lv_iinc (v := v1 + 1) (lv' := [(1, .int (v1 + 1)), (0, .ref x)]) hx hb dX2_flip_37 hl (k := 1) rfl rfl (by decide) rfl (fun ls hl => ?_)
        refine lv_goto (tgt := 2) hx hb dX2_flip_40 (by decide) ?_
        exact ih _ _ _ ad f (ur g 1 (upd (g 1) v1.toNatClampNeg v14)) (v1 + 1) h (lv_sub hl [1, 0] rfl) hs
def sX2_flip (n : Nat) (ad : Nat → Nat) (f : Nat → Int32) (g : Nat → Nat → Int32) : Option ((Nat → Nat) × (Nat → Int32) × (Nat → Nat → Int32)) := sX2_flip_2 40 n ad f g 0
set_option maxHeartbeats 4000000 in
set_option maxRecDepth 100000 in
theorem bX2_flip {p : Program} {l : Launch} {e : Env} {s : State} {m : MethodId} {args : Array Value} {below : List Frame} {meth : Method} {c : Code} {Q : State → Prop} {A : Nat → Prop} {G : va_G} {cyI cyZ : ClassId} {n x : Nat} (X : rh_X p s m args c cX2_flip 2 RX2 wsX2_flip G [(cyI, .int), (cyZ, .boolean)] rn_C A) {ad' : Nat → Nat} {f' : Nat → Int32} {g' : Nat → Nat → Int32} (ret : ∀ (H : Heap) (locs : List Loc) (ls : Array Slot) (pc : Nat), decode cX2_flip pc = .ok (.return_, 1) → rh_W G A s H locs (cw cyI cyZ n x ad' f' g') → W p l e rmX2_flip s m args below meth c H locs 0 0 Q (F0 m pc ls [])) : ∀ (H : Heap) (locs : List Loc) (ls : Array Slot) (ad : Nat → Nat) (f : Nat → Int32) (g : Nat → Nat → Int32), rh_W G A s H locs (cw cyI cyZ n x ad f g) → lv_has ls 2 [(0, .ref x)] → sX2_flip n ad f g = some (ad', f', g') → W p l e rmX2_flip s m args below meth c H locs 0 0 Q (F0 m 0 ls []) := by
  have hx := X.1
  have hb := X.2.1
  have hown := X.2.2.2.1
  have hts := X.2.2.2.2.1
  have hK := X.2.2.2.2.2.1
  have hNN := X.2.2.2.2.2.2.1.2
  intro H locs ls ad f g h hl hs
  unfold sX2_flip at hs
  refine lv_iconst (v := 0) hx hb dX2_flip_0 (by decide) ?_
  refine lv_istore_n (lv' := [(1, .int 0), (0, .ref x)]) hx hb dX2_flip_1 rfl hl (by decide) rfl (fun ls hl => ?_)
  exact bX2_flip_2 X ret 40  _ _ _ ad f g 0 h (lv_sub hl [1, 0] rfl) hs
theorem kX2_flip (l : Launch) (G : va_G) {cyI cyZ : ClassId} {n x : Nat} {ad : Nat → Nat} {f : Nat → Int32} {g : Nat → Nat → Int32} {ad' : Nat → Nat} {f' : Nat → Int32} {g' : Nat → Nat → Int32} (hs : sX2_flip n ad f g = some (ad', f', g')) : rh_Mv l yX2_flip wsX2_flip rmX2_flip G [(cyI, .int), (cyZ, .boolean)] rn_C (cw cyI cyZ n x ad f g) [.ref x] (cw cyI cyZ n x ad' f' g') :=
  rh_ofv (by decide +kernel) rfl (Nat.le_of_ble_eq_true rfl) (fun p e s m below meth c A Q X ret ls hl h => bX2_flip X ret _ _ ls ad f g h hl hs)
abbrev rmX2_step : Room := { frames := 3, cells := 0, slots := 0, locals := 70 }
set_option maxRecDepth 100000 in
theorem iX2_step_X0 : ∀ w ∈ u_ws RX0 TX0 4, w ∈ wsX2_step := by decide +kernel
set_option maxRecDepth 100000 in
theorem iX2_step_X1 : ∀ w ∈ u_ws RX1 TX1 5, w ∈ wsX2_step := by decide +kernel
set_option maxRecDepth 100000 in
theorem iX2_step_X2 : ∀ w ∈ u_ws RX2 TX2 15, w ∈ wsX2_step := by decide +kernel
def sX2_step (n : Nat) (ad : Nat → Nat) (f : Nat → Int32) (g : Nat → Nat → Int32) : Option (Int32 × (Nat → Nat) × (Nat → Int32) × (Nat → Nat → Int32)) := if (f 10) ≤ (f 11) then (if (f 15) ≤ (f 3) then (bR (sX2_rootWithoutReplica n ad f g) (fun r3 => if r3 = (-1) then (bFv (sX2_flip n ad f g) (fun ad6 f7 g8 => some ((16, ad6, f7, g8)))) else (rd (g 1) 16 r3 (fun v10 => bWi (sX2_replicate n ad f g v10) (fun r13 f14 g15 => some ((r13, ad, f14, g15))))))) else (lt ((f 3) + 1) (fun z17 => bWi (sX2_forward n ad (upd f 3 z17) g (z17 - 1)) (fun r19 f20 g21 => some ((1 + r19, ad, f20, g21)))))) else (bWi (sX2_takeEntry n ad f g) (fun r23 f24 g25 => some ((r23, ad, f24, g25))))
set_option maxHeartbeats 4000000 in
set_option maxRecDepth 100000 in
theorem bX2_step {p : Program} {l : Launch} {e : Env} {s : State} {m : MethodId} {args : Array Value} {below : List Frame} {meth : Method} {c : Code} {Q : State → Prop} {A : Nat → Prop} {G : va_G} {cyI cyZ : ClassId} {n x : Nat} (X : rh_X p s m args c cX2_step 2 RX2 wsX2_step G [(cyI, .int), (cyZ, .boolean)] rn_C A) {r' : Int32} {ad' : Nat → Nat} {f' : Nat → Int32} {g' : Nat → Nat → Int32} (ret : ∀ (H : Heap) (locs : List Loc) (ls : Array Slot) (pc : Nat), narrow .int (.int r') = .int r' → decode cX2_step pc = .ok (.ireturn, 1) → rh_W G A s H locs (cw cyI cyZ n x ad' f' g') → W p l e rmX2_step s m args below meth c H locs 0 0 Q (F0 m pc ls [.int r'])) : ∀ (H : Heap) (locs : List Loc) (ls : Array Slot) (ad : Nat → Nat) (f : Nat → Int32) (g : Nat → Nat → Int32), rh_W G A s H locs (cw cyI cyZ n x ad f g) → lv_has ls 2 [(0, .ref x)] → sX2_step n ad f g = some (r', ad', f', g') → W p l e rmX2_step s m args below meth c H locs 0 0 Q (F0 m 0 ls []) := by
  have hx := X.1
  have hb := X.2.1
  have hown := X.2.2.2.1
  have hts := X.2.2.2.2.1
  have hK := X.2.2.2.2.2.1
  have hNN := X.2.2.2.2.2.2.1.2
  intro H locs ls ad f g h hl hs
  unfold sX2_step at hs
  refine lv_aload_n hx hb dX2_step_0 rfl (lv_at hl 0 rfl) ?_
  refine rh_get X h (v := .ref (ad 1)) iX2_step_X2 0 4 rfl rfl (by decide) (by decide +kernel) rfl dX2_step_1 ?_
  refine rh_getN (host := RX2) X h (v := .int (f 11)) iX2_step_X0 1 3 rfl rfl (by decide) (by decide +kernel) rfl dX2_step_4 ?_
  refine lv_aload_n hx hb dX2_step_7 rfl (lv_at hl 0 rfl) ?_
  refine rh_get X h (v := .ref (ad 1)) iX2_step_X2 0 4 rfl rfl (by decide) (by decide +kernel) rfl dX2_step_8 ?_
  refine rh_getN (host := RX2) X h (v := .int (f 10)) iX2_step_X0 1 2 rfl rfl (by decide) (by decide +kernel) rfl dX2_step_11 ?_
  refine lv_icmp_ge (tgt := 22) hx hb dX2_step_14 (by decide) (fun c1 => ?_) (fun c1 => ?_)
  · have hs := ite_p c1 hs
    refine lv_aload_n hx hb dX2_step_22 rfl (lv_at hl 0 rfl) ?_
    refine rh_get X h (v := .int (f 3)) iX2_step_X2 0 8 rfl rfl (by decide) (by decide +kernel) rfl dX2_step_23 ?_
    refine lv_aload_n hx hb dX2_step_26 rfl (lv_at hl 0 rfl) ?_
    refine rh_get X h (v := .ref (ad 3)) iX2_step_X2 0 6 rfl rfl (by decide) (by decide +kernel) rfl dX2_step_27 ?_
    refine rh_getN (host := RX2) X h (v := .int (f 15)) iX2_step_X1 3 4 rfl rfl (by decide) (by decide +kernel) rfl dX2_step_30 ?_
    refine lv_icmp_ge (tgt := 59) hx hb dX2_step_33 (by decide) (fun c2 => ?_) (fun c2 => ?_)
    · have hs := ite_p c2 hs
      refine lv_aload_n hx hb dX2_step_59 rfl (lv_at hl 0 rfl) ?_
      obtain ⟨r3, h4, hs⟩ := bR_some hs
      refine rh_Vi X h (kX2_rootWithoutReplica l G (cyI := cyI) (cyZ := cyZ) (x := x) h4) (cwV 0 hts gX2_step_X2_rootWithoutReplica rfl rfl rfl (by decide +kernel) ⟨Nat.le_of_ble_eq_true rfl, Nat.le_of_ble_eq_true rfl⟩) (va_recv hK h.1 (ci := 2) (q0 := 0) rfl rfl) rfl hl.1 rfl (Nat.le_of_ble_eq_true rfl) dX2_step_60 ⟨Nat.zero_le _, Nat.zero_le _⟩ (fun H locs h => ?_)
      refine lv_istore_n (lv' := [(1, .int r3), (0, .ref x)]) hx hb dX2_step_63 rfl hl (by decide) rfl (fun ls hl => ?_)
      refine lv_iload_n hx hb dX2_step_64 rfl (lv_at hl 0 rfl) ?_
      refine lv_iconst (v := (-1)) hx hb dX2_step_65 (by decide) ?_
      refine lv_icmp_eq (tgt := 80) hx hb dX2_step_66 (by decide) (fun c5 => ?_) (fun c5 => ?_)
      · have hs := ite_p c5 hs
        refine lv_aload_n hx hb dX2_step_80 rfl (lv_at hl 1 rfl) ?_
        obtain ⟨ad6, f7, g8, h9, hs⟩ := bFv_some hs
        refine rh_Vv X h (kX2_flip l G (cyI := cyI) (cyZ := cyZ) (x := x) h9) (cwV 0 hts gX2_step_X2_flip rfl rfl rfl (by decide +kernel) ⟨Nat.le_of_ble_eq_true rfl, Nat.le_of_ble_eq_true rfl⟩) (va_recv hK h.1 (ci := 2) (q0 := 0) rfl rfl) rfl hl.1 rfl (Nat.le_of_ble_eq_true rfl) dX2_step_81 ⟨Nat.zero_le _, Nat.zero_le _⟩ (fun H locs h => ?_)
        refine lv_bipush (v := 16) hx hb dX2_step_84 (by decide) ?_
        cases hs
        exact ret _ _ _ _ rfl dX2_step_86 h
      · have hs := ite_n c5 hs
        refine lv_aload_n hx hb dX2_step_69 rfl (lv_at hl 1 rfl) ?_
        refine lv_aload_n hx hb dX2_step_70 rfl (lv_at hl 1 rfl) ?_
        refine rh_get X h (v := .ref (ad 5)) iX2_step_X2 0 3 rfl rfl (by decide) (by decide +kernel) rfl dX2_step_71 ?_
        refine lv_iload_n hx hb dX2_step_74 rfl (lv_at hl 0 rfl) ?_
        obtain ⟨i12, v10, e11, hs⟩ := rd_some hs
        refine rh_iald X h 5 0 rfl rfl i12 e11 dX2_step_75 ?_
        obtain ⟨r13, f14, g15, h16, hs⟩ := bWi_some hs
        refine rh_Vi X h (kX2_replicate l G (cyI := cyI) (cyZ := cyZ) (x := x) h16) (cwV 1 hts gX2_step_X2_replicate rfl rfl rfl (by decide +kernel) ⟨Nat.le_of_ble_eq_true rfl, Nat.le_of_ble_eq_true rfl⟩) (va_recv hK h.1 (ci := 2) (q0 := 0) rfl rfl) rfl hl.1 rfl (Nat.le_of_ble_eq_true rfl) dX2_step_76 ⟨Nat.zero_le _, Nat.zero_le _⟩ (fun H locs h => ?_)
        cases hs
        exact ret _ _ _ _ rfl dX2_step_79 h
    · have hs := ite_n c2 hs
      refine lv_aload_n hx hb dX2_step_36 rfl (lv_at hl 0 rfl) ?_
      refine lv_dup hx hb dX2_step_37 rfl ?_
      refine rh_get X h (v := .int (f 3)) iX2_step_X2 0 8 rfl rfl (by decide) (by decide +kernel) rfl dX2_step_38 ?_
      refine lv_iconst (v := 1) hx hb dX2_step_41 (by decide) ?_
      refine lv_iadd hx hb dX2_step_42 ?_
      obtain ⟨z17, e18, hs⟩ := lt_some hs
      refine rh_top e18 ?_
      refine rh_put X h iX2_step_X2 tyX2 tyX2_ok nmX2 0 8 rfl rfl (by decide) (by decide +kernel) rfl rfl rfl (Nat.le_of_ble_eq_true rfl) dX2_step_43 (fun H locs h => ?_)
      have h : rh_W G A s H locs (cw cyI cyZ n x ad (upd f 3 z17) g) := cp_3 h
      refine lv_iconst (v := 1) hx hb dX2_step_46 (by decide) ?_
      refine lv_aload_n hx hb dX2_step_47 rfl (lv_at hl 0 rfl) ?_
      refine lv_aload_n hx hb dX2_step_48 rfl (lv_at hl 0 rfl) ?_
      refine rh_get X h (v := .int z17) iX2_step_X2 0 8 rfl rfl (by decide) (by decide +kernel) rfl dX2_step_49 ?_
      refine lv_iconst (v := 1) hx hb dX2_step_52 (by decide) ?_
      refine lv_isub hx hb dX2_step_53 ?_
      obtain ⟨r19, f20, g21, h22, hs⟩ := bWi_some hs
      refine rh_Vi X h (kX2_forward l G (cyI := cyI) (cyZ := cyZ) (x := x) h22) (cwV 1 hts gX2_step_X2_forward rfl rfl rfl (by decide +kernel) ⟨Nat.le_of_ble_eq_true rfl, Nat.le_of_ble_eq_true rfl⟩) (va_recv hK h.1 (ci := 2) (q0 := 0) rfl rfl) rfl hl.1 rfl (Nat.le_of_ble_eq_true rfl) dX2_step_54 ⟨Nat.zero_le _, Nat.zero_le _⟩ (fun H locs h => ?_)
      refine lv_iadd hx hb dX2_step_57 ?_
      cases hs
      exact ret _ _ _ _ rfl dX2_step_58 h
  · have hs := ite_n c1 hs
    refine lv_aload_n hx hb dX2_step_17 rfl (lv_at hl 0 rfl) ?_
    obtain ⟨r23, f24, g25, h26, hs⟩ := bWi_some hs
    refine rh_Vi X h (kX2_takeEntry l G (cyI := cyI) (cyZ := cyZ) (x := x) h26) (cwV 0 hts gX2_step_X2_takeEntry rfl rfl rfl (by decide +kernel) ⟨Nat.le_of_ble_eq_true rfl, Nat.le_of_ble_eq_true rfl⟩) (va_recv hK h.1 (ci := 2) (q0 := 0) rfl rfl) rfl hl.1 rfl (Nat.le_of_ble_eq_true rfl) dX2_step_18 ⟨Nat.zero_le _, Nat.zero_le _⟩ (fun H locs h => ?_)
    cases hs
    exact ret _ _ _ _ rfl dX2_step_21 h
theorem kX2_step (l : Launch) (G : va_G) {cyI cyZ : ClassId} {n x : Nat} {ad : Nat → Nat} {f : Nat → Int32} {g : Nat → Nat → Int32} {r' : Int32} {ad' : Nat → Nat} {f' : Nat → Int32} {g' : Nat → Nat → Int32} (hs : sX2_step n ad f g = some (r', ad', f', g')) : rh_Mi l yX2_step wsX2_step rmX2_step G [(cyI, .int), (cyZ, .boolean)] rn_C (cw cyI cyZ n x ad f g) [.ref x] r' (cw cyI cyZ n x ad' f' g') :=
  rh_ofi (by decide +kernel) rfl (Nat.le_of_ble_eq_true rfl) (fun p e s m below meth c A Q X ret ls hl h => bX2_step X ret _ _ ls ad f g h hl hs)
abbrev rmX2_work : Room := { frames := 4, cells := 0, slots := 0, locals := 91 }
set_option maxRecDepth 100000 in
theorem iX2_work_X2 : ∀ w ∈ u_ws RX2 TX2 15, w ∈ wsX2_work := by decide +kernel
def sX2_work_35 (n : Nat) (ad : Nat → Nat) (f : Nat → Int32) (g : Nat → Nat → Int32) (v2 : Int32) : Option ((Nat → Nat) × (Nat → Int32) × (Nat → Nat → Int32)) := lt ((f 7) + v2) (fun z2 => lt ((f 8) + v2) (fun z4 => lt (if (f 9) < z4 then z4 else (f 9)) (fun z6 => some ((ad, (upd (upd (upd f 7 z2) 8 z4) 9 z6), g)))))
set_option maxHeartbeats 4000000 in
set_option maxRecDepth 100000 in
theorem bX2_work_35 {p : Program} {l : Launch} {e : Env} {s : State} {m : MethodId} {args : Array Value} {below : List Frame} {meth : Method} {c : Code} {Q : State → Prop} {A : Nat → Prop} {G : va_G} {cyI cyZ : ClassId} {n x : Nat} (X : rh_X p s m args c cX2_work 4 RX2 wsX2_work G [(cyI, .int), (cyZ, .boolean)] rn_C A) {ad' : Nat → Nat} {f' : Nat → Int32} {g' : Nat → Nat → Int32} (ret : ∀ (H : Heap) (locs : List Loc) (ls : Array Slot) (pc : Nat), decode cX2_work pc = .ok (.return_, 1) → rh_W G A s H locs (cw cyI cyZ n x ad' f' g') → W p l e rmX2_work s m args below meth c H locs 0 0 Q (F0 m pc ls [])) : ∀ (H : Heap) (locs : List Loc) (ls : Array Slot) (ad : Nat → Nat) (f : Nat → Int32) (g : Nat → Nat → Int32) (v2 : Int32), rh_W G A s H locs (cw cyI cyZ n x ad f g) → lv_has ls 4 [(0, .ref x), (2, .int v2)] → sX2_work_35 n ad f g v2 = some (ad', f', g') → W p l e rmX2_work s m args below meth c H locs 0 0 Q (F0 m 35 ls []) := by
  have hx := X.1
  have hb := X.2.1
  have hown := X.2.2.2.1
  have hts := X.2.2.2.2.1
  have hK := X.2.2.2.2.2.1
  have hNN := X.2.2.2.2.2.2.1.2
  intro H locs ls ad f g v2 h hl hs
  unfold sX2_work_35 at hs
  refine lv_aload_n hx hb dX2_work_35 rfl (lv_at hl 0 rfl) ?_
  refine lv_dup hx hb dX2_work_36 rfl ?_
  refine rh_get X h (v := .int (f 7)) iX2_work_X2 0 12 rfl rfl (by decide) (by decide +kernel) rfl dX2_work_37 ?_
  refine lv_iload_n hx hb dX2_work_40 rfl (lv_at hl 1 rfl) ?_
  refine lv_iadd hx hb dX2_work_41 ?_
  obtain ⟨z2, e3, hs⟩ := lt_some hs
  refine rh_top e3 ?_
  refine rh_put X h iX2_work_X2 tyX2 tyX2_ok nmX2 0 12 rfl rfl (by decide) (by decide +kernel) rfl rfl rfl (Nat.le_of_ble_eq_true rfl) dX2_work_42 (fun H locs h => ?_)
  have h : rh_W G A s H locs (cw cyI cyZ n x ad (upd f 7 z2) g) := cp_7 h
  refine lv_aload_n hx hb dX2_work_45 rfl (lv_at hl 0 rfl) ?_
  refine lv_dup hx hb dX2_work_46 rfl ?_
  refine rh_get X h (v := .int (f 8)) iX2_work_X2 0 13 rfl rfl (by decide) (by decide +kernel) rfl dX2_work_47 ?_
  refine lv_iload_n hx hb dX2_work_50 rfl (lv_at hl 1 rfl) ?_
  refine lv_iadd hx hb dX2_work_51 ?_
  obtain ⟨z4, e5, hs⟩ := lt_some hs
  refine rh_top e5 ?_
  refine rh_put X h iX2_work_X2 tyX2 tyX2_ok nmX2 0 13 rfl rfl (by decide) (by decide +kernel) rfl rfl rfl (Nat.le_of_ble_eq_true rfl) dX2_work_52 (fun H locs h => ?_)
  have h : rh_W G A s H locs (cw cyI cyZ n x ad (upd (upd f 7 z2) 8 z4) g) := cp_8 h
  refine lv_aload_n hx hb dX2_work_55 rfl (lv_at hl 0 rfl) ?_
  refine lv_aload_n hx hb dX2_work_56 rfl (lv_at hl 0 rfl) ?_
  refine rh_get X h (v := .int (f 9)) iX2_work_X2 0 14 rfl rfl (by decide) (by decide +kernel) rfl dX2_work_57 ?_
  refine lv_aload_n hx hb dX2_work_60 rfl (lv_at hl 0 rfl) ?_
  refine rh_get X h (v := .int z4) iX2_work_X2 0 13 rfl rfl (by decide) (by decide +kernel) rfl dX2_work_61 ?_
  refine va_mmax hx hb (X.2.2.1.trans hl.1.symm) hown (hts (.methodLink RX2 146 Lib.Math.max.name) (by decide +kernel)) (hts (.static Lib.Math.max.name) (by decide +kernel)) (hts (.initialized "java/lang/Math") (by decide +kernel)) (hts (.code Lib.Math.max.name Lib.Math.max.code 2 (some .int)) (by decide +kernel)) (Nat.le_of_ble_eq_true rfl) (Nat.le_of_ble_eq_true rfl) (Nat.zero_le _) (Nat.zero_le _) dX2_work_64 ?_
  obtain ⟨z6, e7, hs⟩ := lt_some hs
  refine rh_top e7 ?_
  refine rh_put X h iX2_work_X2 tyX2 tyX2_ok nmX2 0 14 rfl rfl (by decide) (by decide +kernel) rfl rfl rfl (Nat.le_of_ble_eq_true rfl) dX2_work_67 (fun H locs h => ?_)
  have h : rh_W G A s H locs (cw cyI cyZ n x ad (upd (upd (upd f 7 z2) 8 z4) 9 z6) g) := cp_9 h
  cases hs
  exact ret _ _ _ _ dX2_work_70 h
def sX2_work_4 : Nat → Nat → (Nat → Nat) → (Nat → Int32) → (Nat → Nat → Int32) → Int32 → Int32 → Int32 → Option ((Nat → Nat) × (Nat → Int32) × (Nat → Nat → Int32))
  | 0, _, _, _, _, _, _, _ => none
  | k + 1, n, ad, f, g, v1, v2, v3 => if (f 2) = 0 then (sX2_work_35 n ad f g v2) else (if v1 ≤ v2 then (sX2_work_35 n ad f g v2) else (if 1000000 ≤ v3 then (sX2_work_35 n ad f g v2) else (bFi (sX2_step n ad f g) (fun r10 ad11 f12 g13 => sX2_work_4 k n ad11 f12 g13 v1 (v2 + r10) (v3 + 1)))))
set_option maxHeartbeats 4000000 in
set_option maxRecDepth 100000 in
theorem bX2_work_4 {p : Program} {l : Launch} {e : Env} {s : State} {m : MethodId} {args : Array Value} {below : List Frame} {meth : Method} {c : Code} {Q : State → Prop} {A : Nat → Prop} {G : va_G} {cyI cyZ : ClassId} {n x : Nat} (X : rh_X p s m args c cX2_work 4 RX2 wsX2_work G [(cyI, .int), (cyZ, .boolean)] rn_C A) {ad' : Nat → Nat} {f' : Nat → Int32} {g' : Nat → Nat → Int32} (ret : ∀ (H : Heap) (locs : List Loc) (ls : Array Slot) (pc : Nat), decode cX2_work pc = .ok (.return_, 1) → rh_W G A s H locs (cw cyI cyZ n x ad' f' g') → W p l e rmX2_work s m args below meth c H locs 0 0 Q (F0 m pc ls [])) : ∀ k : Nat, ∀ (H : Heap) (locs : List Loc) (ls : Array Slot) (ad : Nat → Nat) (f : Nat → Int32) (g : Nat → Nat → Int32) (v1 : Int32) (v2 : Int32) (v3 : Int32), rh_W G A s H locs (cw cyI cyZ n x ad f g) → lv_has ls 4 [(0, .ref x), (1, .int v1), (2, .int v2), (3, .int v3)] → sX2_work_4 k n ad f g v1 v2 v3 = some (ad', f', g') → W p l e rmX2_work s m args below meth c H locs 0 0 Q (F0 m 4 ls []) := by
  have hx := X.1
  have hb := X.2.1
  have hown := X.2.2.2.1
  have hts := X.2.2.2.2.1
  have hK := X.2.2.2.2.2.1
  have hNN := X.2.2.2.2.2.2.1.2
  intro k
  induction k with
  | zero => intro H locs ls ad f g v1 v2 v3 h hl hs; cases hs
  | succ k ih =>
    intro H locs ls ad f g v1 v2 v3 h hl hs
    simp only [sX2_work_4] at hs
    refine lv_aload_n hx hb dX2_work_4 rfl (lv_at hl 0 rfl) ?_
    refine rh_get X h (v := .int (f 2)) iX2_work_X2 0 7 rfl rfl (by decide) (by decide +kernel) rfl dX2_work_5 ?_
    refine lv_if_eq (tgt := 35) hx hb dX2_work_8 (by decide) (fun c1 => ?_) (fun c1 => ?_)
    · have hs := ite_p c1 hs
      exact bX2_work_35 X ret  _ _ _ ad f g v2 h (lv_sub hl [0, 2] rfl) hs
    · have hs := ite_n c1 hs
      refine lv_iload_n hx hb dX2_work_11 rfl (lv_at hl 2 rfl) ?_
      refine lv_iload_n hx hb dX2_work_12 rfl (lv_at hl 1 rfl) ?_
      refine lv_icmp_ge (tgt := 35) hx hb dX2_work_13 (by decide) (fun c8 => ?_) (fun c8 => ?_)
      · have hs := ite_p c8 hs
        exact bX2_work_35 X ret  _ _ _ ad f g v2 h (lv_sub hl [0, 2] rfl) hs
      · have hs := ite_n c8 hs
        refine lv_iload_n hx hb dX2_work_16 rfl (lv_at hl 3 rfl) ?_
        refine lv_ldc (v := 1000000) hx hb hown (hts (.constant RX2 101 (1000000)) (by decide +kernel)) dX2_work_17 ?_
        refine lv_icmp_ge (tgt := 35) hx hb dX2_work_19 (by decide) (fun c9 => ?_) (fun c9 => ?_)
        · have hs := ite_p c9 hs
          exact bX2_work_35 X ret  _ _ _ ad f g v2 h (lv_sub hl [0, 2] rfl) hs
        · have hs := ite_n c9 hs
          refine lv_iload_n hx hb dX2_work_22 rfl (lv_at hl 2 rfl) ?_
          refine lv_aload_n hx hb dX2_work_23 rfl (lv_at hl 0 rfl) ?_
          obtain ⟨r10, ad11, f12, g13, h14, hs⟩ := bFi_some hs
          refine rh_Vi X h (kX2_step l G (cyI := cyI) (cyZ := cyZ) (x := x) h14) (cwV 0 hts gX2_work_X2_step rfl rfl rfl (by decide +kernel) ⟨Nat.le_of_ble_eq_true rfl, Nat.le_of_ble_eq_true rfl⟩) (va_recv hK h.1 (ci := 2) (q0 := 0) rfl rfl) rfl hl.1 rfl (Nat.le_of_ble_eq_true rfl) dX2_work_24 ⟨Nat.zero_le _, Nat.zero_le _⟩ (fun H locs h => ?_)
          refine lv_iadd hx hb dX2_work_27 ?_
          refine lv_istore_n (lv' := [(2, .int (v2 + r10)), (0, .ref x), (1, .int v1), (3, .int v3)]) hx hb dX2_work_28 rfl hl (by decide) rfl (fun ls hl => ?_)
          refine lv_iinc (v := v3 + 1) (lv' := [(3, .int (v3 + 1)), (2, .int (v2 + r10)), (0, .ref x), (1, .int v1)]) hx hb dX2_work_29 hl (k := 3) rfl rfl (by decide) rfl (fun ls hl => ?_)
          refine lv_goto (tgt := 4) hx hb dX2_work_32 (by decide) ?_
          exact ih _ _ _ ad11 f12 g13 v1 (v2 + r10) (v3 + 1) h (lv_sub hl [2, 3, 1, 0] rfl) hs
def sX2_work (n : Nat) (ad : Nat → Nat) (f : Nat → Int32) (g : Nat → Nat → Int32) (p1 : Int32) : Option ((Nat → Nat) × (Nat → Int32) × (Nat → Nat → Int32)) := sX2_work_4 wF n ad f g p1 0 0
set_option maxHeartbeats 4000000 in
set_option maxRecDepth 100000 in
theorem bX2_work {p : Program} {l : Launch} {e : Env} {s : State} {m : MethodId} {args : Array Value} {below : List Frame} {meth : Method} {c : Code} {Q : State → Prop} {A : Nat → Prop} {G : va_G} {cyI cyZ : ClassId} {n x : Nat} (X : rh_X p s m args c cX2_work 4 RX2 wsX2_work G [(cyI, .int), (cyZ, .boolean)] rn_C A) {ad' : Nat → Nat} {f' : Nat → Int32} {g' : Nat → Nat → Int32} (ret : ∀ (H : Heap) (locs : List Loc) (ls : Array Slot) (pc : Nat), decode cX2_work pc = .ok (.return_, 1) → rh_W G A s H locs (cw cyI cyZ n x ad' f' g') → W p l e rmX2_work s m args below meth c H locs 0 0 Q (F0 m pc ls [])) : ∀ (H : Heap) (locs : List Loc) (ls : Array Slot) (ad : Nat → Nat) (f : Nat → Int32) (g : Nat → Nat → Int32) (p1 : Int32), rh_W G A s H locs (cw cyI cyZ n x ad f g) → lv_has ls 4 [(0, .ref x), (1, .int p1)] → sX2_work n ad f g p1 = some (ad', f', g') → W p l e rmX2_work s m args below meth c H locs 0 0 Q (F0 m 0 ls []) := by
  have hx := X.1
  have hb := X.2.1
  have hown := X.2.2.2.1
  have hts := X.2.2.2.2.1
  have hK := X.2.2.2.2.2.1
  have hNN := X.2.2.2.2.2.2.1.2
  intro H locs ls ad f g p1 h hl hs
  unfold sX2_work at hs
  refine lv_iconst (v := 0) hx hb dX2_work_0 (by decide) ?_
  refine lv_istore_n (lv' := [(2, .int 0), (0, .ref x), (1, .int p1)]) hx hb dX2_work_1 rfl hl (by decide) rfl (fun ls hl => ?_)
  refine lv_iconst (v := 0) hx hb dX2_work_2 (by decide) ?_
  refine lv_istore_n (lv' := [(3, .int 0), (2, .int 0), (0, .ref x), (1, .int p1)]) hx hb dX2_work_3 rfl hl (by decide) rfl (fun ls hl => ?_)
  exact bX2_work_4 X ret wF  _ _ _ ad f g p1 0 0 h (lv_sub hl [2, 3, 1, 0] rfl) hs
theorem kX2_work (l : Launch) (G : va_G) {cyI cyZ : ClassId} {n x : Nat} {ad : Nat → Nat} {f : Nat → Int32} {g : Nat → Nat → Int32} {p1 : Int32} {ad' : Nat → Nat} {f' : Nat → Int32} {g' : Nat → Nat → Int32} (hs : sX2_work n ad f g p1 = some (ad', f', g')) : rh_Mv l yX2_work wsX2_work rmX2_work G [(cyI, .int), (cyZ, .boolean)] rn_C (cw cyI cyZ n x ad f g) [.ref x, .int p1] (cw cyI cyZ n x ad' f' g') :=
  rh_ofv (by decide +kernel) rfl (Nat.le_of_ble_eq_true rfl) (fun p e s m below meth c A Q X ret ls hl h => bX2_work X ret _ _ ls ad f g p1 h hl hs)
abbrev rmX2_makeRoom : Room := { frames := 5, cells := 0, slots := 0, locals := 114 }
set_option maxRecDepth 100000 in
theorem iX2_makeRoom_X2 : ∀ w ∈ u_ws RX2 TX2 15, w ∈ wsX2_makeRoom := by decide +kernel
def sX2_makeRoom_34 (n : Nat) (ad : Nat → Nat) (f : Nat → Int32) (g : Nat → Nat → Int32) (v1 : Int32) : Option ((Nat → Nat) × (Nat → Int32) × (Nat → Nat → Int32)) := bR (sX1_hasRoom n ad f g v1) (fun r2 => if r2 = 0 then (lt ((f 5) + 1) (fun z5 => bFv (sX2_work n ad (upd (upd f 2 1) 5 z5) g 1000000) (fun ad7 f8 g9 => some ((ad7, f8, g9))))) else (some ((ad, f, g))))
set_option maxHeartbeats 4000000 in
set_option maxRecDepth 100000 in
theorem bX2_makeRoom_34 {p : Program} {l : Launch} {e : Env} {s : State} {m : MethodId} {args : Array Value} {below : List Frame} {meth : Method} {c : Code} {Q : State → Prop} {A : Nat → Prop} {G : va_G} {cyI cyZ : ClassId} {n x : Nat} (X : rh_X p s m args c cX2_makeRoom 2 RX2 wsX2_makeRoom G [(cyI, .int), (cyZ, .boolean)] rn_C A) {ad' : Nat → Nat} {f' : Nat → Int32} {g' : Nat → Nat → Int32} (ret : ∀ (H : Heap) (locs : List Loc) (ls : Array Slot) (pc : Nat), decode cX2_makeRoom pc = .ok (.return_, 1) → rh_W G A s H locs (cw cyI cyZ n x ad' f' g') → W p l e rmX2_makeRoom s m args below meth c H locs 0 0 Q (F0 m pc ls [])) : ∀ (H : Heap) (locs : List Loc) (ls : Array Slot) (ad : Nat → Nat) (f : Nat → Int32) (g : Nat → Nat → Int32) (v1 : Int32), rh_W G A s H locs (cw cyI cyZ n x ad f g) → lv_has ls 2 [(0, .ref x), (1, .int v1)] → sX2_makeRoom_34 n ad f g v1 = some (ad', f', g') → W p l e rmX2_makeRoom s m args below meth c H locs 0 0 Q (F0 m 34 ls []) := by
  have hx := X.1
  have hb := X.2.1
  have hown := X.2.2.2.1
  have hts := X.2.2.2.2.1
  have hK := X.2.2.2.2.2.1
  have hNN := X.2.2.2.2.2.2.1.2
  intro H locs ls ad f g v1 h hl hs
  unfold sX2_makeRoom_34 at hs
  refine lv_aload_n hx hb dX2_makeRoom_34 rfl (lv_at hl 0 rfl) ?_
  refine rh_get X h (v := .ref (ad 2)) iX2_makeRoom_X2 0 5 rfl rfl (by decide) (by decide +kernel) rfl dX2_makeRoom_35 ?_
  refine lv_iload_n hx hb dX2_makeRoom_38 rfl (lv_at hl 1 rfl) ?_
  obtain ⟨r2, h3, hs⟩ := bR_some hs
  refine rh_Ni X h (kX1_hasRoom l G (cyI := cyI) (cyZ := cyZ) (x := x) h3) ⟨va_cnB (host := RX2) 1 hts ggX2_makeRoom_X1_hasRoom rfl rfl rfl (hNN _ (by decide +kernel)) (hts (.initialized RX1) (by decide +kernel)) (by decide +kernel) ⟨Nat.le_of_ble_eq_true rfl, Nat.le_of_ble_eq_true rfl⟩, hts (.instanceMethod yX1_hasRoom) (by decide +kernel), hts (.selects RX1 yX1_hasRoom yX1_hasRoom) (by decide +kernel)⟩ (va_recv hK h.1 (ci := 1) (q0 := 2) rfl rfl) rfl hl.1 rfl (Nat.le_of_ble_eq_true rfl) dX2_makeRoom_39 ⟨Nat.zero_le _, Nat.zero_le _⟩ (fun H locs h => ?_)
  refine lv_if_ne (tgt := 66) hx hb dX2_makeRoom_42 (by decide) (fun c4 => ?_) (fun c4 => ?_)
  · have hs := ite_n c4 hs
    cases hs
    exact ret _ _ _ _ dX2_makeRoom_66 h
  · have hs := ite_p c4 hs
    refine lv_aload_n hx hb dX2_makeRoom_45 rfl (lv_at hl 0 rfl) ?_
    refine lv_iconst (v := 1) hx hb dX2_makeRoom_46 (by decide) ?_
    refine rh_put X h iX2_makeRoom_X2 tyX2 tyX2_ok nmX2 0 7 rfl rfl (by decide) (by decide +kernel) rfl rfl rfl (Nat.le_of_ble_eq_true rfl) dX2_makeRoom_47 (fun H locs h => ?_)
    have h : rh_W G A s H locs (cw cyI cyZ n x ad (upd f 2 1) g) := cp_2 h
    refine lv_aload_n hx hb dX2_makeRoom_50 rfl (lv_at hl 0 rfl) ?_
    refine lv_dup hx hb dX2_makeRoom_51 rfl ?_
    refine rh_get X h (v := .int (f 5)) iX2_makeRoom_X2 0 10 rfl rfl (by decide) (by decide +kernel) rfl dX2_makeRoom_52 ?_
    refine lv_iconst (v := 1) hx hb dX2_makeRoom_55 (by decide) ?_
    refine lv_iadd hx hb dX2_makeRoom_56 ?_
    obtain ⟨z5, e6, hs⟩ := lt_some hs
    refine rh_top e6 ?_
    refine rh_put X h iX2_makeRoom_X2 tyX2 tyX2_ok nmX2 0 10 rfl rfl (by decide) (by decide +kernel) rfl rfl rfl (Nat.le_of_ble_eq_true rfl) dX2_makeRoom_57 (fun H locs h => ?_)
    have h : rh_W G A s H locs (cw cyI cyZ n x ad (upd (upd f 2 1) 5 z5) g) := cp_5 h
    refine lv_aload_n hx hb dX2_makeRoom_60 rfl (lv_at hl 0 rfl) ?_
    refine lv_ldc (v := 1000000) hx hb hown (hts (.constant RX2 101 (1000000)) (by decide +kernel)) dX2_makeRoom_61 ?_
    obtain ⟨ad7, f8, g9, h10, hs⟩ := bFv_some hs
    refine rh_Vv X h (kX2_work l G (cyI := cyI) (cyZ := cyZ) (x := x) h10) (cwV 1 hts gX2_makeRoom_X2_work rfl rfl rfl (by decide +kernel) ⟨Nat.le_of_ble_eq_true rfl, Nat.le_of_ble_eq_true rfl⟩) (va_recv hK h.1 (ci := 2) (q0 := 0) rfl rfl) rfl hl.1 rfl (Nat.le_of_ble_eq_true rfl) dX2_makeRoom_63 ⟨Nat.zero_le _, Nat.zero_le _⟩ (fun H locs h => ?_)
    cases hs
    exact ret _ _ _ _ dX2_makeRoom_66 h
def sX2_makeRoom (n : Nat) (ad : Nat → Nat) (f : Nat → Int32) (g : Nat → Nat → Int32) (p1 : Int32) : Option ((Nat → Nat) × (Nat → Int32) × (Nat → Nat → Int32)) := if (f 2) = 0 then (sX2_makeRoom_34 n ad f g p1) else (bR (sX1_hasRoom n ad f g p1) (fun r11 => if r11 = 0 then (lt ((f 5) + 1) (fun z14 => bFv (sX2_work n ad (upd f 5 z14) g 1000000) (fun ad16 f17 g18 => sX2_makeRoom_34 n ad16 f17 g18 p1))) else (sX2_makeRoom_34 n ad f g p1)))
set_option maxHeartbeats 4000000 in
set_option maxRecDepth 100000 in
theorem bX2_makeRoom {p : Program} {l : Launch} {e : Env} {s : State} {m : MethodId} {args : Array Value} {below : List Frame} {meth : Method} {c : Code} {Q : State → Prop} {A : Nat → Prop} {G : va_G} {cyI cyZ : ClassId} {n x : Nat} (X : rh_X p s m args c cX2_makeRoom 2 RX2 wsX2_makeRoom G [(cyI, .int), (cyZ, .boolean)] rn_C A) {ad' : Nat → Nat} {f' : Nat → Int32} {g' : Nat → Nat → Int32} (ret : ∀ (H : Heap) (locs : List Loc) (ls : Array Slot) (pc : Nat), decode cX2_makeRoom pc = .ok (.return_, 1) → rh_W G A s H locs (cw cyI cyZ n x ad' f' g') → W p l e rmX2_makeRoom s m args below meth c H locs 0 0 Q (F0 m pc ls [])) : ∀ (H : Heap) (locs : List Loc) (ls : Array Slot) (ad : Nat → Nat) (f : Nat → Int32) (g : Nat → Nat → Int32) (p1 : Int32), rh_W G A s H locs (cw cyI cyZ n x ad f g) → lv_has ls 2 [(0, .ref x), (1, .int p1)] → sX2_makeRoom n ad f g p1 = some (ad', f', g') → W p l e rmX2_makeRoom s m args below meth c H locs 0 0 Q (F0 m 0 ls []) := by
  have hx := X.1
  have hb := X.2.1
  have hown := X.2.2.2.1
  have hts := X.2.2.2.2.1
  have hK := X.2.2.2.2.2.1
  have hNN := X.2.2.2.2.2.2.1.2
  intro H locs ls ad f g p1 h hl hs
  unfold sX2_makeRoom at hs
  refine lv_aload_n hx hb dX2_makeRoom_0 rfl (lv_at hl 0 rfl) ?_
  refine rh_get X h (v := .int (f 2)) iX2_makeRoom_X2 0 7 rfl rfl (by decide) (by decide +kernel) rfl dX2_makeRoom_1 ?_
  refine lv_if_eq (tgt := 34) hx hb dX2_makeRoom_4 (by decide) (fun c1 => ?_) (fun c1 => ?_)
  · have hs := ite_p c1 hs
    exact bX2_makeRoom_34 X ret  _ _ _ ad f g p1 h (lv_sub hl [0, 1] rfl) hs
  · have hs := ite_n c1 hs
    refine lv_aload_n hx hb dX2_makeRoom_7 rfl (lv_at hl 0 rfl) ?_
    refine rh_get X h (v := .ref (ad 2)) iX2_makeRoom_X2 0 5 rfl rfl (by decide) (by decide +kernel) rfl dX2_makeRoom_8 ?_
    refine lv_iload_n hx hb dX2_makeRoom_11 rfl (lv_at hl 1 rfl) ?_
    obtain ⟨r11, h12, hs⟩ := bR_some hs
    refine rh_Ni X h (kX1_hasRoom l G (cyI := cyI) (cyZ := cyZ) (x := x) h12) ⟨va_cnB (host := RX2) 1 hts ggX2_makeRoom_X1_hasRoom rfl rfl rfl (hNN _ (by decide +kernel)) (hts (.initialized RX1) (by decide +kernel)) (by decide +kernel) ⟨Nat.le_of_ble_eq_true rfl, Nat.le_of_ble_eq_true rfl⟩, hts (.instanceMethod yX1_hasRoom) (by decide +kernel), hts (.selects RX1 yX1_hasRoom yX1_hasRoom) (by decide +kernel)⟩ (va_recv hK h.1 (ci := 1) (q0 := 2) rfl rfl) rfl hl.1 rfl (Nat.le_of_ble_eq_true rfl) dX2_makeRoom_12 ⟨Nat.zero_le _, Nat.zero_le _⟩ (fun H locs h => ?_)
    refine lv_if_ne (tgt := 34) hx hb dX2_makeRoom_15 (by decide) (fun c13 => ?_) (fun c13 => ?_)
    · have hs := ite_n c13 hs
      exact bX2_makeRoom_34 X ret  _ _ _ ad f g p1 h (lv_sub hl [0, 1] rfl) hs
    · have hs := ite_p c13 hs
      refine lv_aload_n hx hb dX2_makeRoom_18 rfl (lv_at hl 0 rfl) ?_
      refine lv_dup hx hb dX2_makeRoom_19 rfl ?_
      refine rh_get X h (v := .int (f 5)) iX2_makeRoom_X2 0 10 rfl rfl (by decide) (by decide +kernel) rfl dX2_makeRoom_20 ?_
      refine lv_iconst (v := 1) hx hb dX2_makeRoom_23 (by decide) ?_
      refine lv_iadd hx hb dX2_makeRoom_24 ?_
      obtain ⟨z14, e15, hs⟩ := lt_some hs
      refine rh_top e15 ?_
      refine rh_put X h iX2_makeRoom_X2 tyX2 tyX2_ok nmX2 0 10 rfl rfl (by decide) (by decide +kernel) rfl rfl rfl (Nat.le_of_ble_eq_true rfl) dX2_makeRoom_25 (fun H locs h => ?_)
      have h : rh_W G A s H locs (cw cyI cyZ n x ad (upd f 5 z14) g) := cp_5 h
      refine lv_aload_n hx hb dX2_makeRoom_28 rfl (lv_at hl 0 rfl) ?_
      refine lv_ldc (v := 1000000) hx hb hown (hts (.constant RX2 101 (1000000)) (by decide +kernel)) dX2_makeRoom_29 ?_
      obtain ⟨ad16, f17, g18, h19, hs⟩ := bFv_some hs
      refine rh_Vv X h (kX2_work l G (cyI := cyI) (cyZ := cyZ) (x := x) h19) (cwV 1 hts gX2_makeRoom_X2_work rfl rfl rfl (by decide +kernel) ⟨Nat.le_of_ble_eq_true rfl, Nat.le_of_ble_eq_true rfl⟩) (va_recv hK h.1 (ci := 2) (q0 := 0) rfl rfl) rfl hl.1 rfl (Nat.le_of_ble_eq_true rfl) dX2_makeRoom_31 ⟨Nat.zero_le _, Nat.zero_le _⟩ (fun H locs h => ?_)
      exact bX2_makeRoom_34 X ret  _ _ _ ad16 f17 g18 p1 h (lv_sub hl [0, 1] rfl) hs
theorem kX2_makeRoom (l : Launch) (G : va_G) {cyI cyZ : ClassId} {n x : Nat} {ad : Nat → Nat} {f : Nat → Int32} {g : Nat → Nat → Int32} {p1 : Int32} {ad' : Nat → Nat} {f' : Nat → Int32} {g' : Nat → Nat → Int32} (hs : sX2_makeRoom n ad f g p1 = some (ad', f', g')) : rh_Mv l yX2_makeRoom wsX2_makeRoom rmX2_makeRoom G [(cyI, .int), (cyZ, .boolean)] rn_C (cw cyI cyZ n x ad f g) [.ref x, .int p1] (cw cyI cyZ n x ad' f' g') :=
  rh_ofv (by decide +kernel) rfl (Nat.le_of_ble_eq_true rfl) (fun p e s m below meth c A Q X ret ls hl h => bX2_makeRoom X ret _ _ ls ad f g p1 h hl hs)
abbrev rmX2_change : Room := { frames := 5, cells := 0, slots := 0, locals := 114 }
set_option maxRecDepth 100000 in
theorem iX2_change_X2 : ∀ w ∈ u_ws RX2 TX2 15, w ∈ wsX2_change := by decide +kernel
def sX2_change (n : Nat) (ad : Nat → Nat) (f : Nat → Int32) (g : Nat → Nat → Int32) (p1 : Int32) (p2 : Int32) (p3 : Int32) (p4 : Int32) : Option ((Nat → Nat) × (Nat → Int32) × (Nat → Nat → Int32)) := bWv (sX1_setCellC n ad f g ((p1 + 1) + p2) p3 p4) (fun f1 g2 => if (f1 2) = 0 then (some ((ad, f1, g2))) else (bWv (sX0_add n ad (upd f1 8 0) g2 p1 p2) (fun f5 g6 => bFv (sX2_work n ad f5 g6 (f5 1)) (fun ad8 f9 g10 => some ((ad8, f9, g10))))))
set_option maxHeartbeats 4000000 in
set_option maxRecDepth 100000 in
theorem bX2_change {p : Program} {l : Launch} {e : Env} {s : State} {m : MethodId} {args : Array Value} {below : List Frame} {meth : Method} {c : Code} {Q : State → Prop} {A : Nat → Prop} {G : va_G} {cyI cyZ : ClassId} {n x : Nat} (X : rh_X p s m args c cX2_change 5 RX2 wsX2_change G [(cyI, .int), (cyZ, .boolean)] rn_C A) {ad' : Nat → Nat} {f' : Nat → Int32} {g' : Nat → Nat → Int32} (ret : ∀ (H : Heap) (locs : List Loc) (ls : Array Slot) (pc : Nat), decode cX2_change pc = .ok (.return_, 1) → rh_W G A s H locs (cw cyI cyZ n x ad' f' g') → W p l e rmX2_change s m args below meth c H locs 0 0 Q (F0 m pc ls [])) : ∀ (H : Heap) (locs : List Loc) (ls : Array Slot) (ad : Nat → Nat) (f : Nat → Int32) (g : Nat → Nat → Int32) (p1 : Int32) (p2 : Int32) (p3 : Int32) (p4 : Int32), rh_W G A s H locs (cw cyI cyZ n x ad f g) → lv_has ls 5 [(0, .ref x), (1, .int p1), (2, .int p2), (3, .int p3), (4, .int p4)] → sX2_change n ad f g p1 p2 p3 p4 = some (ad', f', g') → W p l e rmX2_change s m args below meth c H locs 0 0 Q (F0 m 0 ls []) := by
  have hx := X.1
  have hb := X.2.1
  have hown := X.2.2.2.1
  have hts := X.2.2.2.2.1
  have hK := X.2.2.2.2.2.1
  have hNN := X.2.2.2.2.2.2.1.2
  intro H locs ls ad f g p1 p2 p3 p4 h hl hs
  unfold sX2_change at hs
  refine lv_aload_n hx hb dX2_change_0 rfl (lv_at hl 0 rfl) ?_
  refine rh_get X h (v := .ref (ad 2)) iX2_change_X2 0 5 rfl rfl (by decide) (by decide +kernel) rfl dX2_change_1 ?_
  refine lv_iload_n hx hb dX2_change_4 rfl (lv_at hl 1 rfl) ?_
  refine lv_iconst (v := 1) hx hb dX2_change_5 (by decide) ?_
  refine lv_iadd hx hb dX2_change_6 ?_
  refine lv_iload_n hx hb dX2_change_7 rfl (lv_at hl 2 rfl) ?_
  refine lv_iadd hx hb dX2_change_8 ?_
  refine lv_iload_n hx hb dX2_change_9 rfl (lv_at hl 3 rfl) ?_
  refine lv_iload hx hb dX2_change_10 (lv_at hl 4 rfl) ?_
  obtain ⟨f1, g2, h3, hs⟩ := bWv_some hs
  refine rh_Nv X h (kX1_setCellC l G (cyI := cyI) (cyZ := cyZ) (x := x) h3) ⟨va_cnB (host := RX2) 3 hts ggX2_change_X1_setCell rfl rfl rfl (hNN _ (by decide +kernel)) (hts (.initialized RX1) (by decide +kernel)) (by decide +kernel) ⟨Nat.le_of_ble_eq_true rfl, Nat.le_of_ble_eq_true rfl⟩, hts (.instanceMethod yX1_setCell) (by decide +kernel), hts (.selects RX1 yX1_setCell yX1_setCell) (by decide +kernel)⟩ (va_recv hK h.1 (ci := 1) (q0 := 2) rfl rfl) rfl hl.1 rfl (Nat.le_of_ble_eq_true rfl) dX2_change_12 ⟨Nat.zero_le _, Nat.zero_le _⟩ (fun H locs h => ?_)
  refine lv_aload_n hx hb dX2_change_15 rfl (lv_at hl 0 rfl) ?_
  refine rh_get X h (v := .int (f1 2)) iX2_change_X2 0 7 rfl rfl (by decide) (by decide +kernel) rfl dX2_change_16 ?_
  refine lv_if_eq (tgt := 44) hx hb dX2_change_19 (by decide) (fun c4 => ?_) (fun c4 => ?_)
  · have hs := ite_p c4 hs
    cases hs
    exact ret _ _ _ _ dX2_change_44 h
  · have hs := ite_n c4 hs
    refine lv_aload_n hx hb dX2_change_22 rfl (lv_at hl 0 rfl) ?_
    refine lv_iconst (v := 0) hx hb dX2_change_23 (by decide) ?_
    refine rh_put X h iX2_change_X2 tyX2 tyX2_ok nmX2 0 13 rfl rfl (by decide) (by decide +kernel) rfl rfl rfl (Nat.le_of_ble_eq_true rfl) dX2_change_24 (fun H locs h => ?_)
    have h : rh_W G A s H locs (cw cyI cyZ n x ad (upd f1 8 0) g2) := cp_8 h
    refine lv_aload_n hx hb dX2_change_27 rfl (lv_at hl 0 rfl) ?_
    refine rh_get X h (v := .ref (ad 1)) iX2_change_X2 0 4 rfl rfl (by decide) (by decide +kernel) rfl dX2_change_28 ?_
    refine lv_iload_n hx hb dX2_change_31 rfl (lv_at hl 1 rfl) ?_
    refine lv_iload_n hx hb dX2_change_32 rfl (lv_at hl 2 rfl) ?_
    obtain ⟨f5, g6, h7, hs⟩ := bWv_some hs
    refine rh_Nv X h (kX0_add l G (cyI := cyI) (cyZ := cyZ) (x := x) h7) ⟨va_cnB (host := RX2) 2 hts ggX2_change_X0_add rfl rfl rfl (hNN _ (by decide +kernel)) (hts (.initialized RX0) (by decide +kernel)) (by decide +kernel) ⟨Nat.le_of_ble_eq_true rfl, Nat.le_of_ble_eq_true rfl⟩, hts (.instanceMethod yX0_add) (by decide +kernel), hts (.selects RX0 yX0_add yX0_add) (by decide +kernel)⟩ (va_recv hK h.1 (ci := 0) (q0 := 1) rfl rfl) rfl hl.1 rfl (Nat.le_of_ble_eq_true rfl) dX2_change_33 ⟨Nat.zero_le _, Nat.zero_le _⟩ (fun H locs h => ?_)
    refine lv_aload_n hx hb dX2_change_36 rfl (lv_at hl 0 rfl) ?_
    refine lv_aload_n hx hb dX2_change_37 rfl (lv_at hl 0 rfl) ?_
    refine rh_get X h (v := .int (f5 1)) iX2_change_X2 0 1 rfl rfl (by decide) (by decide +kernel) rfl dX2_change_38 ?_
    obtain ⟨ad8, f9, g10, h11, hs⟩ := bFv_some hs
    refine rh_Vv X h (kX2_work l G (cyI := cyI) (cyZ := cyZ) (x := x) h11) (cwV 1 hts gX2_change_X2_work rfl rfl rfl (by decide +kernel) ⟨Nat.le_of_ble_eq_true rfl, Nat.le_of_ble_eq_true rfl⟩) (va_recv hK h.1 (ci := 2) (q0 := 0) rfl rfl) rfl hl.1 rfl (Nat.le_of_ble_eq_true rfl) dX2_change_41 ⟨Nat.zero_le _, Nat.zero_le _⟩ (fun H locs h => ?_)
    cases hs
    exact ret _ _ _ _ dX2_change_44 h
theorem kX2_change (l : Launch) (G : va_G) {cyI cyZ : ClassId} {n x : Nat} {ad : Nat → Nat} {f : Nat → Int32} {g : Nat → Nat → Int32} {p1 : Int32} {p2 : Int32} {p3 : Int32} {p4 : Int32} {ad' : Nat → Nat} {f' : Nat → Int32} {g' : Nat → Nat → Int32} (hs : sX2_change n ad f g p1 p2 p3 p4 = some (ad', f', g')) : rh_Mv l yX2_change wsX2_change rmX2_change G [(cyI, .int), (cyZ, .boolean)] rn_C (cw cyI cyZ n x ad f g) [.ref x, .int p1, .int p2, .int p3, .int p4] (cw cyI cyZ n x ad' f' g') :=
  rh_ofv (by decide +kernel) rfl (Nat.le_of_ble_eq_true rfl) (fun p e s m below meth c A Q X ret ls hl h => bX2_change X ret _ _ ls ad f g p1 p2 p3 p4 h hl hs)
abbrev rmX2_move : Room := { frames := 1, cells := 0, slots := 0, locals := 23 }
set_option maxRecDepth 100000 in
theorem iX2_move_X2 : ∀ w ∈ u_ws RX2 TX2 15, w ∈ wsX2_move := by decide +kernel
def sX2_move (n : Nat) (ad : Nat → Nat) (f : Nat → Int32) (g : Nat → Nat → Int32) (p1 : Int32) (p2 : Int32) : Option (Int32 × (Nat → Int32) × (Nat → Nat → Int32)) := bR (sX2_isRoot  p1) (fun r1 => if r1 = 0 then (some ((0, f, g))) else (bR (sX2_isRoot  p2) (fun r4 => if r4 = 0 then (some ((0, f, g))) else (rd (g 0) 16 p2 (fun v7 => rd (g 1) 16 p2 (fun v10 => bWv (sX2_setRoot n ad f g p1 v7 v10) (fun f13 g14 => some ((1, f13, g14)))))))))
set_option maxHeartbeats 4000000 in
set_option maxRecDepth 100000 in
theorem bX2_move {p : Program} {l : Launch} {e : Env} {s : State} {m : MethodId} {args : Array Value} {below : List Frame} {meth : Method} {c : Code} {Q : State → Prop} {A : Nat → Prop} {G : va_G} {cyI cyZ : ClassId} {n x : Nat} {ad : Nat → Nat} (X : rh_X p s m args c cX2_move 3 RX2 wsX2_move G [(cyI, .int), (cyZ, .boolean)] rn_C A) {r' : Int32} {f' : Nat → Int32} {g' : Nat → Nat → Int32} (ret : ∀ (H : Heap) (locs : List Loc) (ls : Array Slot) (pc : Nat), narrow .boolean (.int r') = .int r' → decode cX2_move pc = .ok (.ireturn, 1) → rh_W G A s H locs (cw cyI cyZ n x ad f' g') → W p l e rmX2_move s m args below meth c H locs 0 0 Q (F0 m pc ls [.int r'])) : ∀ (H : Heap) (locs : List Loc) (ls : Array Slot) (f : Nat → Int32) (g : Nat → Nat → Int32) (p1 : Int32) (p2 : Int32), rh_W G A s H locs (cw cyI cyZ n x ad f g) → lv_has ls 3 [(0, .ref x), (1, .int p1), (2, .int p2)] → sX2_move n ad f g p1 p2 = some (r', f', g') → W p l e rmX2_move s m args below meth c H locs 0 0 Q (F0 m 0 ls []) := by
  have hx := X.1
  have hb := X.2.1
  have hown := X.2.2.2.1
  have hts := X.2.2.2.2.1
  have hK := X.2.2.2.2.2.1
  have hNN := X.2.2.2.2.2.2.1.2
  intro H locs ls f g p1 p2 h hl hs
  unfold sX2_move at hs
  refine lv_iload_n hx hb dX2_move_0 rfl (lv_at hl 1 rfl) ?_
  obtain ⟨r1, h2, hs⟩ := bR_some hs
  refine rh_Si X h (kX2_isRoot l G h2) (va_cwS 1 hts gX2_move_X2_isRoot rfl rfl rfl (by decide +kernel) ⟨Nat.le_of_ble_eq_true rfl, Nat.le_of_ble_eq_true rfl⟩) rfl hl.1 rfl (Nat.le_of_ble_eq_true rfl) dX2_move_1 ⟨Nat.zero_le _, Nat.zero_le _⟩ (fun H locs h => ?_)
  refine lv_if_eq (tgt := 14) hx hb dX2_move_4 (by decide) (fun c3 => ?_) (fun c3 => ?_)
  · have hs := ite_p c3 hs
    refine lv_iconst (v := 0) hx hb dX2_move_14 (by decide) ?_
    cases hs
    exact ret _ _ _ _ rfl dX2_move_15 h
  · have hs := ite_n c3 hs
    refine lv_iload_n hx hb dX2_move_7 rfl (lv_at hl 2 rfl) ?_
    obtain ⟨r4, h5, hs⟩ := bR_some hs
    refine rh_Si X h (kX2_isRoot l G h5) (va_cwS 1 hts gX2_move_X2_isRoot rfl rfl rfl (by decide +kernel) ⟨Nat.le_of_ble_eq_true rfl, Nat.le_of_ble_eq_true rfl⟩) rfl hl.1 rfl (Nat.le_of_ble_eq_true rfl) dX2_move_8 ⟨Nat.zero_le _, Nat.zero_le _⟩ (fun H locs h => ?_)
    refine lv_if_ne (tgt := 16) hx hb dX2_move_11 (by decide) (fun c6 => ?_) (fun c6 => ?_)
    · have hs := ite_n c6 hs
      refine lv_aload_n hx hb dX2_move_16 rfl (lv_at hl 0 rfl) ?_
      refine lv_iload_n hx hb dX2_move_17 rfl (lv_at hl 1 rfl) ?_
      refine lv_aload_n hx hb dX2_move_18 rfl (lv_at hl 0 rfl) ?_
      refine rh_get X h (v := .ref (ad 4)) iX2_move_X2 0 2 rfl rfl (by decide) (by decide +kernel) rfl dX2_move_19 ?_
      refine lv_iload_n hx hb dX2_move_22 rfl (lv_at hl 2 rfl) ?_
      obtain ⟨i9, v7, e8, hs⟩ := rd_some hs
      refine rh_zald X h 4 1 rfl rfl i9 e8 dX2_move_23 ?_
      refine lv_aload_n hx hb dX2_move_24 rfl (lv_at hl 0 rfl) ?_
      refine rh_get X h (v := .ref (ad 5)) iX2_move_X2 0 3 rfl rfl (by decide) (by decide +kernel) rfl dX2_move_25 ?_
      refine lv_iload_n hx hb dX2_move_28 rfl (lv_at hl 2 rfl) ?_
      obtain ⟨i12, v10, e11, hs⟩ := rd_some hs
      refine rh_iald X h 5 0 rfl rfl i12 e11 dX2_move_29 ?_
      obtain ⟨f13, g14, h15, hs⟩ := bWv_some hs
      refine rh_Vv X h (kX2_setRoot l G (cyI := cyI) (cyZ := cyZ) (x := x) h15) (cwV 3 hts gX2_move_X2_setRoot rfl rfl rfl (by decide +kernel) ⟨Nat.le_of_ble_eq_true rfl, Nat.le_of_ble_eq_true rfl⟩) (va_recv hK h.1 (ci := 2) (q0 := 0) rfl rfl) rfl hl.1 rfl (Nat.le_of_ble_eq_true rfl) dX2_move_30 ⟨Nat.zero_le _, Nat.zero_le _⟩ (fun H locs h => ?_)
      refine lv_iconst (v := 1) hx hb dX2_move_33 (by decide) ?_
      cases hs
      exact ret _ _ _ _ rfl dX2_move_34 h
    · have hs := ite_p c6 hs
      refine lv_iconst (v := 0) hx hb dX2_move_14 (by decide) ?_
      cases hs
      exact ret _ _ _ _ rfl dX2_move_15 h
theorem kX2_move (l : Launch) (G : va_G) {cyI cyZ : ClassId} {n x : Nat} {ad : Nat → Nat} {f : Nat → Int32} {g : Nat → Nat → Int32} {p1 : Int32} {p2 : Int32} {r' : Int32} {f' : Nat → Int32} {g' : Nat → Nat → Int32} (hs : sX2_move n ad f g p1 p2 = some (r', f', g')) : rh_Mi l yX2_move wsX2_move rmX2_move G [(cyI, .int), (cyZ, .boolean)] rn_C (cw cyI cyZ n x ad f g) [.ref x, .int p1, .int p2] r' (cw cyI cyZ n x ad f' g') :=
  rh_ofi (by decide +kernel) rfl (Nat.le_of_ble_eq_true rfl) (fun p e s m below meth c A Q X ret ls hl h => bX2_move X ret _ _ ls f g p1 p2 h hl hs)
abbrev rmX2_number : Room := { frames := 1, cells := 0, slots := 0, locals := 23 }
def sX2_number (n : Nat) (ad : Nat → Nat) (f : Nat → Int32) (g : Nat → Nat → Int32) (p1 : Int32) (p2 : Int32) : Option (Int32 × (Nat → Int32) × (Nat → Nat → Int32)) := bR (sX2_isRoot  p1) (fun r1 => if r1 = 0 then (some ((0, f, g))) else (bWv (sX2_setRoot n ad f g p1 0 p2) (fun f4 g5 => some ((1, f4, g5)))))
set_option maxHeartbeats 4000000 in
set_option maxRecDepth 100000 in
theorem bX2_number {p : Program} {l : Launch} {e : Env} {s : State} {m : MethodId} {args : Array Value} {below : List Frame} {meth : Method} {c : Code} {Q : State → Prop} {A : Nat → Prop} {G : va_G} {cyI cyZ : ClassId} {n x : Nat} {ad : Nat → Nat} (X : rh_X p s m args c cX2_number 3 RX2 wsX2_number G [(cyI, .int), (cyZ, .boolean)] rn_C A) {r' : Int32} {f' : Nat → Int32} {g' : Nat → Nat → Int32} (ret : ∀ (H : Heap) (locs : List Loc) (ls : Array Slot) (pc : Nat), narrow .boolean (.int r') = .int r' → decode cX2_number pc = .ok (.ireturn, 1) → rh_W G A s H locs (cw cyI cyZ n x ad f' g') → W p l e rmX2_number s m args below meth c H locs 0 0 Q (F0 m pc ls [.int r'])) : ∀ (H : Heap) (locs : List Loc) (ls : Array Slot) (f : Nat → Int32) (g : Nat → Nat → Int32) (p1 : Int32) (p2 : Int32), rh_W G A s H locs (cw cyI cyZ n x ad f g) → lv_has ls 3 [(0, .ref x), (1, .int p1), (2, .int p2)] → sX2_number n ad f g p1 p2 = some (r', f', g') → W p l e rmX2_number s m args below meth c H locs 0 0 Q (F0 m 0 ls []) := by
  have hx := X.1
  have hb := X.2.1
  have hown := X.2.2.2.1
  have hts := X.2.2.2.2.1
  have hK := X.2.2.2.2.2.1
  have hNN := X.2.2.2.2.2.2.1.2
  intro H locs ls f g p1 p2 h hl hs
  unfold sX2_number at hs
  refine lv_iload_n hx hb dX2_number_0 rfl (lv_at hl 1 rfl) ?_
  obtain ⟨r1, h2, hs⟩ := bR_some hs
  refine rh_Si X h (kX2_isRoot l G h2) (va_cwS 1 hts gX2_number_X2_isRoot rfl rfl rfl (by decide +kernel) ⟨Nat.le_of_ble_eq_true rfl, Nat.le_of_ble_eq_true rfl⟩) rfl hl.1 rfl (Nat.le_of_ble_eq_true rfl) dX2_number_1 ⟨Nat.zero_le _, Nat.zero_le _⟩ (fun H locs h => ?_)
  refine lv_if_ne (tgt := 9) hx hb dX2_number_4 (by decide) (fun c3 => ?_) (fun c3 => ?_)
  · have hs := ite_n c3 hs
    refine lv_aload_n hx hb dX2_number_9 rfl (lv_at hl 0 rfl) ?_
    refine lv_iload_n hx hb dX2_number_10 rfl (lv_at hl 1 rfl) ?_
    refine lv_iconst (v := 0) hx hb dX2_number_11 (by decide) ?_
    refine lv_iload_n hx hb dX2_number_12 rfl (lv_at hl 2 rfl) ?_
    obtain ⟨f4, g5, h6, hs⟩ := bWv_some hs
    refine rh_Vv X h (kX2_setRoot l G (cyI := cyI) (cyZ := cyZ) (x := x) h6) (cwV 3 hts gX2_number_X2_setRoot rfl rfl rfl (by decide +kernel) ⟨Nat.le_of_ble_eq_true rfl, Nat.le_of_ble_eq_true rfl⟩) (va_recv hK h.1 (ci := 2) (q0 := 0) rfl rfl) rfl hl.1 rfl (Nat.le_of_ble_eq_true rfl) dX2_number_13 ⟨Nat.zero_le _, Nat.zero_le _⟩ (fun H locs h => ?_)
    refine lv_iconst (v := 1) hx hb dX2_number_16 (by decide) ?_
    cases hs
    exact ret _ _ _ _ rfl dX2_number_17 h
  · have hs := ite_p c3 hs
    refine lv_iconst (v := 0) hx hb dX2_number_7 (by decide) ?_
    cases hs
    exact ret _ _ _ _ rfl dX2_number_8 h
theorem kX2_number (l : Launch) (G : va_G) {cyI cyZ : ClassId} {n x : Nat} {ad : Nat → Nat} {f : Nat → Int32} {g : Nat → Nat → Int32} {p1 : Int32} {p2 : Int32} {r' : Int32} {f' : Nat → Int32} {g' : Nat → Nat → Int32} (hs : sX2_number n ad f g p1 p2 = some (r', f', g')) : rh_Mi l yX2_number wsX2_number rmX2_number G [(cyI, .int), (cyZ, .boolean)] rn_C (cw cyI cyZ n x ad f g) [.ref x, .int p1, .int p2] r' (cw cyI cyZ n x ad f' g') :=
  rh_ofi (by decide +kernel) rfl (Nat.le_of_ble_eq_true rfl) (fun p e s m below meth c A Q X ret ls hl h => bX2_number X ret _ _ ls f g p1 p2 h hl hs)
abbrev rmX2_count : Room := { frames := 0, cells := 0, slots := 0, locals := 0 }
set_option maxRecDepth 100000 in
theorem iX2_count_X0 : ∀ w ∈ u_ws RX0 TX0 4, w ∈ wsX2_count := by decide +kernel
set_option maxRecDepth 100000 in
theorem iX2_count_X1 : ∀ w ∈ u_ws RX1 TX1 5, w ∈ wsX2_count := by decide +kernel
set_option maxRecDepth 100000 in
theorem iX2_count_X2 : ∀ w ∈ u_ws RX2 TX2 15, w ∈ wsX2_count := by decide +kernel
def sX2_count (n : Nat) (ad : Nat → Nat) (f : Nat → Int32) (g : Nat → Nat → Int32) (p1 : Int32) : Option Int32 := if p1 = 0 then (some (f 12)) else if p1 = 1 then (if (f 2) = 0 then (some (0)) else (some (1))) else if p1 = 2 then (some (f 13)) else if p1 = 3 then (some (f 15)) else if p1 = 4 then (some (f 3)) else if p1 = 5 then (some (f 10)) else if p1 = 6 then (some (f 11)) else if p1 = 7 then (some (f 4)) else if p1 = 8 then (some (f 5)) else if p1 = 9 then (some (f 7)) else if p1 = 10 then (some (f 9)) else if p1 = 11 then (some (f 6)) else if p1 = 12 then (some (f 0)) else some ((-1))
set_option maxHeartbeats 4000000 in
set_option maxRecDepth 100000 in
theorem bX2_count {p : Program} {l : Launch} {e : Env} {s : State} {m : MethodId} {args : Array Value} {below : List Frame} {meth : Method} {c : Code} {Q : State → Prop} {A : Nat → Prop} {G : va_G} {cyI cyZ : ClassId} {n x : Nat} {ad : Nat → Nat} {f : Nat → Int32} {g : Nat → Nat → Int32} (X : rh_X p s m args c cX2_count 2 RX2 wsX2_count G [(cyI, .int), (cyZ, .boolean)] rn_C A) {r' : Int32} (ret : ∀ (H : Heap) (locs : List Loc) (ls : Array Slot) (pc : Nat), narrow .int (.int r') = .int r' → decode cX2_count pc = .ok (.ireturn, 1) → rh_W G A s H locs (cw cyI cyZ n x ad f g) → W p l e rmX2_count s m args below meth c H locs 0 0 Q (F0 m pc ls [.int r'])) : ∀ (H : Heap) (locs : List Loc) (ls : Array Slot) (p1 : Int32), rh_W G A s H locs (cw cyI cyZ n x ad f g) → lv_has ls 2 [(0, .ref x), (1, .int p1)] → sX2_count n ad f g p1 = some r' → W p l e rmX2_count s m args below meth c H locs 0 0 Q (F0 m 0 ls []) := by
  have hx := X.1
  have hb := X.2.1
  have hown := X.2.2.2.1
  have hts := X.2.2.2.2.1
  have hK := X.2.2.2.2.2.1
  have hNN := X.2.2.2.2.2.2.1.2
  intro H locs ls p1 h hl hs
  unfold sX2_count at hs
  refine lv_iload_n hx hb dX2_count_0 rfl (lv_at hl 1 rfl) ?_
  by_cases c1 : p1 = 0
  · have hs := ite_p c1 hs
    refine lv_tableIn (tgt := 68) hx hb dX2_count_1 (by rw [c1]; decide) (by rw [c1]; decide) (by rw [c1]; rfl) (by decide) ?_
    refine lv_aload_n hx hb dX2_count_68 rfl (lv_at hl 0 rfl) ?_
    refine rh_get X h (v := .ref (ad 2)) iX2_count_X2 0 5 rfl rfl (by decide) (by decide +kernel) rfl dX2_count_69 ?_
    refine rh_getN (host := RX2) X h (v := .int (f 12)) iX2_count_X1 2 0 rfl rfl (by decide) (by decide +kernel) rfl dX2_count_72 ?_
    cases hs
    exact ret _ _ _ _ rfl dX2_count_75 h
  have hs := ite_n c1 hs
  by_cases c2 : p1 = 1
  · have hs := ite_p c2 hs
    refine lv_tableIn (tgt := 76) hx hb dX2_count_1 (by rw [c2]; decide) (by rw [c2]; decide) (by rw [c2]; rfl) (by decide) ?_
    refine lv_aload_n hx hb dX2_count_76 rfl (lv_at hl 0 rfl) ?_
    refine rh_get X h (v := .int (f 2)) iX2_count_X2 0 7 rfl rfl (by decide) (by decide +kernel) rfl dX2_count_77 ?_
    refine lv_if_eq (tgt := 87) hx hb dX2_count_80 (by decide) (fun c3 => ?_) (fun c3 => ?_)
    · have hs := ite_p c3 hs
      refine lv_iconst (v := 0) hx hb dX2_count_87 (by decide) ?_
      cases hs
      exact ret _ _ _ _ rfl dX2_count_88 h
    · have hs := ite_n c3 hs
      refine lv_iconst (v := 1) hx hb dX2_count_83 (by decide) ?_
      refine lv_goto (tgt := 88) hx hb dX2_count_84 (by decide) ?_
      cases hs
      exact ret _ _ _ _ rfl dX2_count_88 h
  have hs := ite_n c2 hs
  by_cases c4 : p1 = 2
  · have hs := ite_p c4 hs
    refine lv_tableIn (tgt := 89) hx hb dX2_count_1 (by rw [c4]; decide) (by rw [c4]; decide) (by rw [c4]; rfl) (by decide) ?_
    refine lv_aload_n hx hb dX2_count_89 rfl (lv_at hl 0 rfl) ?_
    refine rh_get X h (v := .ref (ad 2)) iX2_count_X2 0 5 rfl rfl (by decide) (by decide +kernel) rfl dX2_count_90 ?_
    refine rh_getN (host := RX2) X h (v := .int (f 13)) iX2_count_X1 2 4 rfl rfl (by decide) (by decide +kernel) rfl dX2_count_93 ?_
    cases hs
    exact ret _ _ _ _ rfl dX2_count_96 h
  have hs := ite_n c4 hs
  by_cases c5 : p1 = 3
  · have hs := ite_p c5 hs
    refine lv_tableIn (tgt := 97) hx hb dX2_count_1 (by rw [c5]; decide) (by rw [c5]; decide) (by rw [c5]; rfl) (by decide) ?_
    refine lv_aload_n hx hb dX2_count_97 rfl (lv_at hl 0 rfl) ?_
    refine rh_get X h (v := .ref (ad 3)) iX2_count_X2 0 6 rfl rfl (by decide) (by decide +kernel) rfl dX2_count_98 ?_
    refine rh_getN (host := RX2) X h (v := .int (f 15)) iX2_count_X1 3 4 rfl rfl (by decide) (by decide +kernel) rfl dX2_count_101 ?_
    cases hs
    exact ret _ _ _ _ rfl dX2_count_104 h
  have hs := ite_n c5 hs
  by_cases c6 : p1 = 4
  · have hs := ite_p c6 hs
    refine lv_tableIn (tgt := 105) hx hb dX2_count_1 (by rw [c6]; decide) (by rw [c6]; decide) (by rw [c6]; rfl) (by decide) ?_
    refine lv_aload_n hx hb dX2_count_105 rfl (lv_at hl 0 rfl) ?_
    refine rh_get X h (v := .int (f 3)) iX2_count_X2 0 8 rfl rfl (by decide) (by decide +kernel) rfl dX2_count_106 ?_
    cases hs
    exact ret _ _ _ _ rfl dX2_count_109 h
  have hs := ite_n c6 hs
  by_cases c7 : p1 = 5
  · have hs := ite_p c7 hs
    refine lv_tableIn (tgt := 110) hx hb dX2_count_1 (by rw [c7]; decide) (by rw [c7]; decide) (by rw [c7]; rfl) (by decide) ?_
    refine lv_aload_n hx hb dX2_count_110 rfl (lv_at hl 0 rfl) ?_
    refine rh_get X h (v := .ref (ad 1)) iX2_count_X2 0 4 rfl rfl (by decide) (by decide +kernel) rfl dX2_count_111 ?_
    refine rh_getN (host := RX2) X h (v := .int (f 10)) iX2_count_X0 1 2 rfl rfl (by decide) (by decide +kernel) rfl dX2_count_114 ?_
    cases hs
    exact ret _ _ _ _ rfl dX2_count_117 h
  have hs := ite_n c7 hs
  by_cases c8 : p1 = 6
  · have hs := ite_p c8 hs
    refine lv_tableIn (tgt := 118) hx hb dX2_count_1 (by rw [c8]; decide) (by rw [c8]; decide) (by rw [c8]; rfl) (by decide) ?_
    refine lv_aload_n hx hb dX2_count_118 rfl (lv_at hl 0 rfl) ?_
    refine rh_get X h (v := .ref (ad 1)) iX2_count_X2 0 4 rfl rfl (by decide) (by decide +kernel) rfl dX2_count_119 ?_
    refine rh_getN (host := RX2) X h (v := .int (f 11)) iX2_count_X0 1 3 rfl rfl (by decide) (by decide +kernel) rfl dX2_count_122 ?_
    cases hs
    exact ret _ _ _ _ rfl dX2_count_125 h
  have hs := ite_n c8 hs
  by_cases c9 : p1 = 7
  · have hs := ite_p c9 hs
    refine lv_tableIn (tgt := 126) hx hb dX2_count_1 (by rw [c9]; decide) (by rw [c9]; decide) (by rw [c9]; rfl) (by decide) ?_
    refine lv_aload_n hx hb dX2_count_126 rfl (lv_at hl 0 rfl) ?_
    refine rh_get X h (v := .int (f 4)) iX2_count_X2 0 9 rfl rfl (by decide) (by decide +kernel) rfl dX2_count_127 ?_
    cases hs
    exact ret _ _ _ _ rfl dX2_count_130 h
  have hs := ite_n c9 hs
  by_cases c10 : p1 = 8
  · have hs := ite_p c10 hs
    refine lv_tableIn (tgt := 131) hx hb dX2_count_1 (by rw [c10]; decide) (by rw [c10]; decide) (by rw [c10]; rfl) (by decide) ?_
    refine lv_aload_n hx hb dX2_count_131 rfl (lv_at hl 0 rfl) ?_
    refine rh_get X h (v := .int (f 5)) iX2_count_X2 0 10 rfl rfl (by decide) (by decide +kernel) rfl dX2_count_132 ?_
    cases hs
    exact ret _ _ _ _ rfl dX2_count_135 h
  have hs := ite_n c10 hs
  by_cases c11 : p1 = 9
  · have hs := ite_p c11 hs
    refine lv_tableIn (tgt := 136) hx hb dX2_count_1 (by rw [c11]; decide) (by rw [c11]; decide) (by rw [c11]; rfl) (by decide) ?_
    refine lv_aload_n hx hb dX2_count_136 rfl (lv_at hl 0 rfl) ?_
    refine rh_get X h (v := .int (f 7)) iX2_count_X2 0 12 rfl rfl (by decide) (by decide +kernel) rfl dX2_count_137 ?_
    cases hs
    exact ret _ _ _ _ rfl dX2_count_140 h
  have hs := ite_n c11 hs
  by_cases c12 : p1 = 10
  · have hs := ite_p c12 hs
    refine lv_tableIn (tgt := 141) hx hb dX2_count_1 (by rw [c12]; decide) (by rw [c12]; decide) (by rw [c12]; rfl) (by decide) ?_
    refine lv_aload_n hx hb dX2_count_141 rfl (lv_at hl 0 rfl) ?_
    refine rh_get X h (v := .int (f 9)) iX2_count_X2 0 14 rfl rfl (by decide) (by decide +kernel) rfl dX2_count_142 ?_
    cases hs
    exact ret _ _ _ _ rfl dX2_count_145 h
  have hs := ite_n c12 hs
  by_cases c13 : p1 = 11
  · have hs := ite_p c13 hs
    refine lv_tableIn (tgt := 146) hx hb dX2_count_1 (by rw [c13]; decide) (by rw [c13]; decide) (by rw [c13]; rfl) (by decide) ?_
    refine lv_aload_n hx hb dX2_count_146 rfl (lv_at hl 0 rfl) ?_
    refine rh_get X h (v := .int (f 6)) iX2_count_X2 0 11 rfl rfl (by decide) (by decide +kernel) rfl dX2_count_147 ?_
    cases hs
    exact ret _ _ _ _ rfl dX2_count_150 h
  have hs := ite_n c13 hs
  by_cases c14 : p1 = 12
  · have hs := ite_p c14 hs
    refine lv_tableIn (tgt := 151) hx hb dX2_count_1 (by rw [c14]; decide) (by rw [c14]; decide) (by rw [c14]; rfl) (by decide) ?_
    refine lv_aload_n hx hb dX2_count_151 rfl (lv_at hl 0 rfl) ?_
    refine rh_get X h (v := .int (f 0)) iX2_count_X2 0 0 rfl rfl (by decide) (by decide +kernel) rfl dX2_count_152 ?_
    cases hs
    exact ret _ _ _ _ rfl dX2_count_155 h
  have hs := ite_n c14 hs
  have ec1 : (p1).toInt ≠ 0 := fun e9 => c1 (Int32.toInt_inj.mp (e9.trans (by decide)))
  have ec2 : (p1).toInt ≠ 1 := fun e9 => c2 (Int32.toInt_inj.mp (e9.trans (by decide)))
  have ec4 : (p1).toInt ≠ 2 := fun e9 => c4 (Int32.toInt_inj.mp (e9.trans (by decide)))
  have ec5 : (p1).toInt ≠ 3 := fun e9 => c5 (Int32.toInt_inj.mp (e9.trans (by decide)))
  have ec6 : (p1).toInt ≠ 4 := fun e9 => c6 (Int32.toInt_inj.mp (e9.trans (by decide)))
  have ec7 : (p1).toInt ≠ 5 := fun e9 => c7 (Int32.toInt_inj.mp (e9.trans (by decide)))
  have ec8 : (p1).toInt ≠ 6 := fun e9 => c8 (Int32.toInt_inj.mp (e9.trans (by decide)))
  have ec9 : (p1).toInt ≠ 7 := fun e9 => c9 (Int32.toInt_inj.mp (e9.trans (by decide)))
  have ec10 : (p1).toInt ≠ 8 := fun e9 => c10 (Int32.toInt_inj.mp (e9.trans (by decide)))
  have ec11 : (p1).toInt ≠ 9 := fun e9 => c11 (Int32.toInt_inj.mp (e9.trans (by decide)))
  have ec12 : (p1).toInt ≠ 10 := fun e9 => c12 (Int32.toInt_inj.mp (e9.trans (by decide)))
  have ec13 : (p1).toInt ≠ 11 := fun e9 => c13 (Int32.toInt_inj.mp (e9.trans (by decide)))
  have ec14 : (p1).toInt ≠ 12 := fun e9 => c14 (Int32.toInt_inj.mp (e9.trans (by decide)))
  refine lv_tableOut (tgt := 156) hx hb dX2_count_1 (by omega) (by decide) ?_
  refine lv_iconst (v := (-1)) hx hb dX2_count_156 (by decide) ?_
  cases hs
  exact ret _ _ _ _ rfl dX2_count_157 h
theorem kX2_count (l : Launch) (G : va_G) {cyI cyZ : ClassId} {n x : Nat} {ad : Nat → Nat} {f : Nat → Int32} {g : Nat → Nat → Int32} {p1 : Int32} {r' : Int32} (hs : sX2_count n ad f g p1 = some r') : rh_Mi l yX2_count wsX2_count rmX2_count G [(cyI, .int), (cyZ, .boolean)] rn_C (cw cyI cyZ n x ad f g) [.ref x, .int p1] r' (cw cyI cyZ n x ad f g) :=
  rh_ofi (by decide +kernel) rfl (Nat.le_of_ble_eq_true rfl) (fun p e s m below meth c A Q X ret ls hl h => bX2_count X ret _ _ ls p1 h hl hs)
