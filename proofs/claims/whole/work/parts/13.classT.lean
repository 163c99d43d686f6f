abbrev rmX2_alloc : Room := { frames := 6, cells := 1, slots := 6, locals := 135 }
set_option maxRecDepth 100000 in
theorem iX2_alloc_X1 : ∀ w ∈ u_ws RX1 TX1 5, w ∈ wsX2_alloc := by decide +kernel
set_option maxRecDepth 100000 in
theorem iX2_alloc_X2 : ∀ w ∈ u_ws RX2 TX2 15, w ∈ wsX2_alloc := by decide +kernel
def sX2_alloc (n : Nat) (ad : Nat → Nat) (f : Nat → Int32) (g : Nat → Nat → Int32) (p1 : Int32) (p2 : Int32) : Option (Nat × Int32 × (Nat → Nat) × (Nat → Int32) × (Nat → Nat → Int32)) := bR (sX2_isRoot  p1) (fun r1 => if r1 = 0 then (some (((1 : Nat), 0, ad, f, g))) else (if p2 < 1 then (some (((1 : Nat), 0, ad, f, g))) else (if p2 ≤ 8 then (bFv (sX2_makeRoom n ad (upd f 8 0) g p2) (fun ad6 f7 g8 => bR (sX1_hasRoom n ad6 f7 g8 p2) (fun r10 => if r10 = 0 then (some (((0 : Nat), 0, ad6, f7, g8))) else (bWi (sX1_layObject n ad6 f7 g8 p2) (fun r13 f14 g15 => bWv (sX2_setRoot n ad6 f14 g15 p1 1 r13) (fun f17 g18 => lt ((f17 6) + 1) (fun z20 => if (f17 2) = 0 then (if ((f17 13) * 2) ≤ (f17 0) then (some (((0 : Nat), 1, ad6, (upd f17 6 z20), g18))) else (some (((0 : Nat), 1, ad6, (upd (upd f17 6 z20) 2 1), g18)))) else (bFv (sX2_work n ad6 (upd f17 6 z20) g18 ((f17 1) * (p2 + 1))) (fun ad24 f25 g26 => some (((0 : Nat), 1, ad24, f25, g26))))))))))) else (some (((1 : Nat), 0, ad, f, g))))))
set_option maxHeartbeats 4000000 in
set_option maxRecDepth 100000 in
theorem bX2_alloc {p : Program} {l : Launch} {e : Env} {s : State} {m : MethodId} {args : Array Value} {below : List Frame} {meth : Method} {c : Code} {Q : State → Prop} {A : Nat → Prop} {G : va_G} {cyI cyZ : ClassId} {n x : Nat} (X : rh_X p s m args c cX2_alloc 3 RX2 wsX2_alloc G [(cyI, .int), (cyZ, .boolean)] rn_C A) {k' : Nat} {r' : Int32} {ad' : Nat → Nat} {f' : Nat → Int32} {g' : Nat → Nat → Int32} (ret : ∀ (H : Heap) (locs : List Loc) (ls : Array Slot) (pc : Nat), k' = 0 → narrow .boolean (.int r') = .int r' → decode cX2_alloc pc = .ok (.ireturn, 1) → rh_W G A s H locs (cw cyI cyZ n x ad' f' g') → W p l e rmX2_alloc s m args below meth c H locs 0 0 Q (F0 m pc ls [.int r'])) (thr18 : ∀ (H : Heap) (locs : List Loc) (ls : Array Slot), ls.size = 3 → k' = 1 → rh_W G A s H locs (cw cyI cyZ n x ad' f' g') → W p l e rmX2_alloc s m args below meth c H locs 0 0 Q (F0 m 18 ls [])) : ∀ (H : Heap) (locs : List Loc) (ls : Array Slot) (ad : Nat → Nat) (f : Nat → Int32) (g : Nat → Nat → Int32) (p1 : Int32) (p2 : Int32), rh_W G A s H locs (cw cyI cyZ n x ad f g) → lv_has ls 3 [(0, .ref x), (1, .int p1), (2, .int p2)] → sX2_alloc n ad f g p1 p2 = some (k', r', ad', f', g') → W p l e rmX2_alloc s m args below meth c H locs 0 0 Q (F0 m 0 ls []) := by
  have hx := X.1
  have hb := X.2.1
  have hown := X.2.2.2.1
  have hts := X.2.2.2.2.1
  have hK := X.2.2.2.2.2.1
  have hNN := X.2.2.2.2.2.2.1.2
  intro H locs ls ad f g p1 p2 h hl hs
  unfold sX2_alloc at hs
  refine lv_iload_n hx hb dX2_alloc_0 rfl (lv_at hl 1 rfl) ?_
  obtain ⟨r1, h2, hs⟩ := bR_some hs
  refine rh_Si X h (kX2_isRoot l G h2) (va_cwS 1 hts gX2_alloc_X2_isRoot rfl rfl rfl (by decide +kernel) ⟨Nat.le_of_ble_eq_true rfl, Nat.le_of_ble_eq_true rfl⟩) rfl hl.1 rfl (Nat.le_of_ble_eq_true rfl) dX2_alloc_1 ⟨Nat.zero_le _, Nat.zero_le _⟩ (fun H locs h => ?_)
  refine lv_if_eq (tgt := 18) hx hb dX2_alloc_4 (by decide) (fun c3 => ?_) (fun c3 => ?_)
  · have hs := ite_p c3 hs
    cases hs
    exact thr18 _ _ _ hl.1 rfl h
  · have hs := ite_n c3 hs
    refine lv_iload_n hx hb dX2_alloc_7 rfl (lv_at hl 2 rfl) ?_
    refine lv_iconst (v := 1) hx hb dX2_alloc_8 (by decide) ?_
    refine lv_icmp_lt (tgt := 18) hx hb dX2_alloc_9 (by decide) (fun c4 => ?_) (fun c4 => ?_)
    · have hs := ite_p c4 hs
      cases hs
      exact thr18 _ _ _ hl.1 rfl h
    · have hs := ite_n c4 hs
      refine lv_iload_n hx hb dX2_alloc_12 rfl (lv_at hl 2 rfl) ?_
      refine lv_bipush (v := 8) hx hb dX2_alloc_13 (by decide) ?_
      refine lv_icmp_le (tgt := 26) hx hb dX2_alloc_15 (by decide) (fun c5 => ?_) (fun c5 => ?_)
      · have hs := ite_p c5 hs
        refine lv_aload_n hx hb dX2_alloc_26 rfl (lv_at hl 0 rfl) ?_
        refine lv_iconst (v := 0) hx hb dX2_alloc_27 (by decide) ?_
        refine rh_put X h iX2_alloc_X2 tyX2 tyX2_ok nmX2 0 13 rfl rfl (by decide) (by decide +kernel) rfl rfl rfl (Nat.le_of_ble_eq_true rfl) dX2_alloc_28 (fun H locs h => ?_)
        have h : rh_W G A s H locs (cw cyI cyZ n x ad (upd f 8 0) g) := cp_8 h
        refine lv_aload_n hx hb dX2_alloc_31 rfl (lv_at hl 0 rfl) ?_
        refine lv_iload_n hx hb dX2_alloc_32 rfl (lv_at hl 2 rfl) ?_
        obtain ⟨ad6, f7, g8, h9, hs⟩ := bFv_some hs
        refine rh_Vv X h (kX2_makeRoom l G (cyI := cyI) (cyZ := cyZ) (x := x) h9) (cwV 1 hts gX2_alloc_X2_makeRoom rfl rfl rfl (by decide +kernel) ⟨Nat.le_of_ble_eq_true rfl, Nat.le_of_ble_eq_true rfl⟩) (va_recv hK h.1 (ci := 2) (q0 := 0) rfl rfl) rfl hl.1 rfl (Nat.le_of_ble_eq_true rfl) dX2_alloc_33 ⟨Nat.zero_le _, Nat.zero_le _⟩ (fun H locs h => ?_)
        refine lv_aload_n hx hb dX2_alloc_36 rfl (lv_at hl 0 rfl) ?_
        refine rh_get X h (v := .ref (ad6 2)) iX2_alloc_X2 0 5 rfl rfl (by decide) (by decide +kernel) rfl dX2_alloc_37 ?_
        refine lv_iload_n hx hb dX2_alloc_40 rfl (lv_at hl 2 rfl) ?_
        obtain ⟨r10, h11, hs⟩ := bR_some hs
        refine rh_Ni X h (kX1_hasRoom l G (cyI := cyI) (cyZ := cyZ) (x := x) h11) ⟨va_cnB (host := RX2) 1 hts ggX2_alloc_X1_hasRoom rfl rfl rfl (hNN _ (by decide +kernel)) (hts (.initialized RX1) (by decide +kernel)) (by decide +kernel) ⟨Nat.le_of_ble_eq_true rfl, Nat.le_of_ble_eq_true rfl⟩, hts (.instanceMethod yX1_hasRoom) (by decide +kernel), hts (.selects RX1 yX1_hasRoom yX1_hasRoom) (by decide +kernel)⟩ (va_recv hK h.1 (ci := 1) (q0 := 2) rfl rfl) rfl hl.1 rfl (Nat.le_of_ble_eq_true rfl) dX2_alloc_41 ⟨Nat.zero_le _, Nat.zero_le _⟩ (fun H locs h => ?_)
        refine lv_if_ne (tgt := 49) hx hb dX2_alloc_44 (by decide) (fun c12 => ?_) (fun c12 => ?_)
        · have hs := ite_n c12 hs
          refine lv_aload_n hx hb dX2_alloc_49 rfl (lv_at hl 0 rfl) ?_
          refine lv_iload_n hx hb dX2_alloc_50 rfl (lv_at hl 1 rfl) ?_
          refine lv_iconst (v := 1) hx hb dX2_alloc_51 (by decide) ?_
          refine lv_aload_n hx hb dX2_alloc_52 rfl (lv_at hl 0 rfl) ?_
          refine rh_get X h (v := .ref (ad6 2)) iX2_alloc_X2 0 5 rfl rfl (by decide) (by decide +kernel) rfl dX2_alloc_53 ?_
          refine lv_iload_n hx hb dX2_alloc_56 rfl (lv_at hl 2 rfl) ?_
          obtain ⟨r13, f14, g15, h16, hs⟩ := bWi_some hs
          refine rh_Ni X h (kX1_layObject l G (cyI := cyI) (cyZ := cyZ) (x := x) h16) ⟨va_cnB (host := RX2) 1 hts ggX2_alloc_X1_layObject rfl rfl rfl (hNN _ (by decide +kernel)) (hts (.initialized RX1) (by decide +kernel)) (by decide +kernel) ⟨Nat.le_of_ble_eq_true rfl, Nat.le_of_ble_eq_true rfl⟩, hts (.instanceMethod yX1_layObject) (by decide +kernel), hts (.selects RX1 yX1_layObject yX1_layObject) (by decide +kernel)⟩ (va_recv hK h.1 (ci := 1) (q0 := 2) rfl rfl) rfl hl.1 rfl (Nat.le_of_ble_eq_true rfl) dX2_alloc_57 ⟨Nat.zero_le _, Nat.zero_le _⟩ (fun H locs h => ?_)
          obtain ⟨f17, g18, h19, hs⟩ := bWv_some hs
          refine rh_Vv X h (kX2_setRoot l G (cyI := cyI) (cyZ := cyZ) (x := x) h19) (cwV 3 hts gX2_alloc_X2_setRoot rfl rfl rfl (by decide +kernel) ⟨Nat.le_of_ble_eq_true rfl, Nat.le_of_ble_eq_true rfl⟩) (va_recv hK h.1 (ci := 2) (q0 := 0) rfl rfl) rfl hl.1 rfl (Nat.le_of_ble_eq_true rfl) dX2_alloc_60 ⟨Nat.zero_le _, Nat.zero_le _⟩ (fun H locs h => ?_)
          refine lv_aload_n hx hb dX2_alloc_63 rfl (lv_at hl 0 rfl) ?_
          refine lv_dup hx hb dX2_alloc_64 rfl ?_
          refine rh_get X h (v := .int (f17 6)) iX2_alloc_X2 0 11 rfl rfl (by decide) (by decide +kernel) rfl dX2_alloc_65 ?_
          refine lv_iconst (v := 1) hx hb dX2_alloc_68 (by decide) ?_
          refine lv_iadd hx hb dX2_alloc_69 ?_
          obtain ⟨z20, e21, hs⟩ := lt_some hs
          refine rh_top e21 ?_
          refine rh_put X h iX2_alloc_X2 tyX2 tyX2_ok nmX2 0 11 rfl rfl (by decide) (by decide +kernel) rfl rfl rfl (Nat.le_of_ble_eq_true rfl) dX2_alloc_70 (fun H locs h => ?_)
          have h : rh_W G A s H locs (cw cyI cyZ n x ad6 (upd f17 6 z20) g18) := cp_6 h
          refine lv_aload_n hx hb dX2_alloc_73 rfl (lv_at hl 0 rfl) ?_
          refine rh_get X h (v := .int (f17 2)) iX2_alloc_X2 0 7 rfl rfl (by decide) (by decide +kernel) rfl dX2_alloc_74 ?_
          refine lv_if_eq (tgt := 95) hx hb dX2_alloc_77 (by decide) (fun c22 => ?_) (fun c22 => ?_)
          · have hs := ite_p c22 hs
            refine lv_aload_n hx hb dX2_alloc_95 rfl (lv_at hl 0 rfl) ?_
            refine rh_get X h (v := .ref (ad6 2)) iX2_alloc_X2 0 5 rfl rfl (by decide) (by decide +kernel) rfl dX2_alloc_96 ?_
            refine rh_getN (host := RX2) X h (v := .int (f17 13)) iX2_alloc_X1 2 4 rfl rfl (by decide) (by decide +kernel) rfl dX2_alloc_99 ?_
            refine lv_iconst (v := 2) hx hb dX2_alloc_102 (by decide) ?_
            refine lv_imul hx hb dX2_alloc_103 ?_
            refine lv_aload_n hx hb dX2_alloc_104 rfl (lv_at hl 0 rfl) ?_
            refine rh_get X h (v := .int (f17 0)) iX2_alloc_X2 0 0 rfl rfl (by decide) (by decide +kernel) rfl dX2_alloc_105 ?_
            refine lv_icmp_le (tgt := 116) hx hb dX2_alloc_108 (by decide) (fun c23 => ?_) (fun c23 => ?_)
            · have hs := ite_p c23 hs
              refine lv_iconst (v := 1) hx hb dX2_alloc_116 (by decide) ?_
              cases hs
              exact ret _ _ _ _ rfl rfl dX2_alloc_117 h
            · have hs := ite_n c23 hs
              refine lv_aload_n hx hb dX2_alloc_111 rfl (lv_at hl 0 rfl) ?_
              refine lv_iconst (v := 1) hx hb dX2_alloc_112 (by decide) ?_
              refine rh_put X h iX2_alloc_X2 tyX2 tyX2_ok nmX2 0 7 rfl rfl (by decide) (by decide +kernel) rfl rfl rfl (Nat.le_of_ble_eq_true rfl) dX2_alloc_113 (fun H locs h => ?_)
              have h : rh_W G A s H locs (cw cyI cyZ n x ad6 (upd (upd f17 6 z20) 2 1) g18) := cp_2 h
              refine lv_iconst (v := 1) hx hb dX2_alloc_116 (by decide) ?_
              cases hs
              exact ret _ _ _ _ rfl rfl dX2_alloc_117 h
          · have hs := ite_n c22 hs
            refine lv_aload_n hx hb dX2_alloc_80 rfl (lv_at hl 0 rfl) ?_
            refine lv_aload_n hx hb dX2_alloc_81 rfl (lv_at hl 0 rfl) ?_
            refine rh_get X h (v := .int (f17 1)) iX2_alloc_X2 0 1 rfl rfl (by decide) (by decide +kernel) rfl dX2_alloc_82 ?_
            refine lv_iload_n hx hb dX2_alloc_85 rfl (lv_at hl 2 rfl) ?_
            refine lv_iconst (v := 1) hx hb dX2_alloc_86 (by decide) ?_
            refine lv_iadd hx hb dX2_alloc_87 ?_
            refine lv_imul hx hb dX2_alloc_88 ?_
            obtain ⟨ad24, f25, g26, h27, hs⟩ := bFv_some hs
            refine rh_Vv X h (kX2_work l G (cyI := cyI) (cyZ := cyZ) (x := x) h27) (cwV 1 hts gX2_alloc_X2_work rfl rfl rfl (by decide +kernel) ⟨Nat.le_of_ble_eq_true rfl, Nat.le_of_ble_eq_true rfl⟩) (va_recv hK h.1 (ci := 2) (q0 := 0) rfl rfl) rfl hl.1 rfl (Nat.le_of_ble_eq_true rfl) dX2_alloc_89 ⟨Nat.zero_le _, Nat.zero_le _⟩ (fun H locs h => ?_)
            refine lv_goto (tgt := 116) hx hb dX2_alloc_92 (by decide) ?_
            refine lv_iconst (v := 1) hx hb dX2_alloc_116 (by decide) ?_
            cases hs
            exact ret _ _ _ _ rfl rfl dX2_alloc_117 h
        · have hs := ite_p c12 hs
          refine lv_iconst (v := 0) hx hb dX2_alloc_47 (by decide) ?_
          cases hs
          exact ret _ _ _ _ rfl rfl dX2_alloc_48 h
      · have hs := ite_n c5 hs
        cases hs
        exact thr18 _ _ _ hl.1 rfl h
theorem twX2_alloc_A : rt_w RX2 wsX2_alloc rn_C "java/lang/IllegalArgumentException" 47 49 := ⟨by decide +kernel, by decide +kernel, fun w hw => List.mem_cons_of_mem _ (List.mem_append_right _ hw), rt_bA, rt_gA, by decide +kernel⟩
set_option maxHeartbeats 4000000 in
theorem kX2_alloc (l : Launch) (hlt : l.stackTraces = false) (G : va_G) {cyI cyZ : ClassId} {n x : Nat} {ad : Nat → Nat} {f : Nat → Int32} {g : Nat → Nat → Int32} {p1 : Int32} {p2 : Int32} {k' : Nat} {r' : Int32} {ad' : Nat → Nat} {f' : Nat → Int32} {g' : Nat → Nat → Int32} (hs : sX2_alloc n ad f g p1 p2 = some (k', r', ad', f', g')) : rt_Mi rt_nC l yX2_alloc wsX2_alloc rmX2_alloc G [(cyI, .int), (cyZ, .boolean)] rn_C (cw cyI cyZ n x ad f g) [.ref x, .int p1, .int p2] k' r' (cw cyI cyZ n x ad' f' g') :=
  rt_ofi hlt (by decide +kernel) rfl (Nat.le_of_ble_eq_true rfl) rfl rfl (by decide) (by decide) (fun p e s m below meth c A Q X ret thr ls hl h => bX2_alloc X ret (fun H locs ls hls hk h => thr H locs ls 18 47 49 "java/lang/IllegalArgumentException" hls (by rw [hk]; decide) (by rw [hk]; rfl) twX2_alloc_A dX2_alloc_18 dX2_alloc_21 dX2_alloc_22 dX2_alloc_25 h) _ _ ls ad f g p1 p2 h hl hs)
abbrev rmX2_put : Room := { frames := 6, cells := 1, slots := 6, locals := 138 }
set_option maxRecDepth 100000 in
theorem iX2_put_X1 : ∀ w ∈ u_ws RX1 TX1 5, w ∈ wsX2_put := by decide +kernel
set_option maxRecDepth 100000 in
theorem iX2_put_X2 : ∀ w ∈ u_ws RX2 TX2 15, w ∈ wsX2_put := by decide +kernel
def sX2_put_61 (n : Nat) (ad : Nat → Nat) (f : Nat → Int32) (g : Nat → Nat → Int32) (v1 : Int32) (v2 : Int32) (v3 : Int32) (t0 : Int32) : Option (Nat × (Nat → Nat) × (Nat → Int32) × (Nat → Nat → Int32)) := rd (g 1) 16 v1 (fun v14 => rd (g 1) 16 v3 (fun v17 => bFv (sX2_change n ad f g v14 v2 t0 v17) (fun ad20 f21 g22 => some (((0 : Nat), ad20, f21, g22)))))
set_option maxHeartbeats 4000000 in
set_option maxRecDepth 100000 in
theorem bX2_put_61 {p : Program} {l : Launch} {e : Env} {s : State} {m : MethodId} {args : Array Value} {below : List Frame} {meth : Method} {c : Code} {Q : State → Prop} {A : Nat → Prop} {G : va_G} {cyI cyZ : ClassId} {n x : Nat} (X : rh_X p s m args c cX2_put 5 RX2 wsX2_put G [(cyI, .int), (cyZ, .boolean)] rn_C A) {k' : Nat} {ad' : Nat → Nat} {f' : Nat → Int32} {g' : Nat → Nat → Int32} (ret : ∀ (H : Heap) (locs : List Loc) (ls : Array Slot) (pc : Nat), k' = 0 → decode cX2_put pc = .ok (.return_, 1) → rh_W G A s H locs (cw cyI cyZ n x ad' f' g') → W p l e rmX2_put s m args below meth c H locs 0 0 Q (F0 m pc ls [])) (thr14 : ∀ (H : Heap) (locs : List Loc) (ls : Array Slot), ls.size = 5 → k' = 1 → rh_W G A s H locs (cw cyI cyZ n x ad' f' g') → W p l e rmX2_put s m args below meth c H locs 0 0 Q (F0 m 14 ls [])) (thr31 : ∀ (H : Heap) (locs : List Loc) (ls : Array Slot), ls.size = 5 → k' = 2 → rh_W G A s H locs (cw cyI cyZ n x ad' f' g') → W p l e rmX2_put s m args below meth c H locs 0 0 Q (F0 m 31 ls [])) : ∀ (H : Heap) (locs : List Loc) (ls : Array Slot) (ad : Nat → Nat) (f : Nat → Int32) (g : Nat → Nat → Int32) (v1 : Int32) (v2 : Int32) (v3 : Int32) (t0 : Int32), rh_W G A s H locs (cw cyI cyZ n x ad f g) → lv_has ls 5 [(0, .ref x), (1, .int v1), (2, .int v2), (3, .int v3)] → sX2_put_61 n ad f g v1 v2 v3 t0 = some (k', ad', f', g') → W p l e rmX2_put s m args below meth c H locs 0 0 Q (F0 m 61 ls [.int t0]) := by
  have hx := X.1
  have hb := X.2.1
  have hown := X.2.2.2.1
  have hts := X.2.2.2.2.1
  have hK := X.2.2.2.2.2.1
  have hNN := X.2.2.2.2.2.2.1.2
  intro H locs ls ad f g v1 v2 v3 t0 h hl hs
  unfold sX2_put_61 at hs
  refine lv_istore (lv' := [(4, .int t0), (0, .ref x), (1, .int v1), (2, .int v2), (3, .int v3)]) hx hb dX2_put_61 hl (by decide) rfl (fun ls hl => ?_)
  refine lv_aload_n hx hb dX2_put_63 rfl (lv_at hl 1 rfl) ?_
  refine lv_aload_n hx hb dX2_put_64 rfl (lv_at hl 1 rfl) ?_
  refine rh_get X h (v := .ref (ad 5)) iX2_put_X2 0 3 rfl rfl (by decide) (by decide +kernel) rfl dX2_put_65 ?_
  refine lv_iload_n hx hb dX2_put_68 rfl (lv_at hl 2 rfl) ?_
  obtain ⟨i16, v14, e15, hs⟩ := rd_some hs
  refine rh_iald X h 5 0 rfl rfl i16 e15 dX2_put_69 ?_
  refine lv_iload_n hx hb dX2_put_70 rfl (lv_at hl 3 rfl) ?_
  refine lv_iload hx hb dX2_put_71 (lv_at hl 0 rfl) ?_
  refine lv_aload_n hx hb dX2_put_73 rfl (lv_at hl 1 rfl) ?_
  refine rh_get X h (v := .ref (ad 5)) iX2_put_X2 0 3 rfl rfl (by decide) (by decide +kernel) rfl dX2_put_74 ?_
  refine lv_iload_n hx hb dX2_put_77 rfl (lv_at hl 4 rfl) ?_
  obtain ⟨i19, v17, e18, hs⟩ := rd_some hs
  refine rh_iald X h 5 0 rfl rfl i19 e18 dX2_put_78 ?_
  obtain ⟨ad20, f21, g22, h23, hs⟩ := bFv_some hs
  refine rh_Vv X h (kX2_change l G (cyI := cyI) (cyZ := cyZ) (x := x) h23) (cwV 4 hts gX2_put_X2_change rfl rfl rfl (by decide +kernel) ⟨Nat.le_of_ble_eq_true rfl, Nat.le_of_ble_eq_true rfl⟩) (va_recv hK h.1 (ci := 2) (q0 := 0) rfl rfl) rfl hl.1 rfl (Nat.le_of_ble_eq_true rfl) dX2_put_79 ⟨Nat.zero_le _, Nat.zero_le _⟩ (fun H locs h => ?_)
  cases hs
  exact ret _ _ _ _ rfl dX2_put_82 h
def sX2_put (n : Nat) (ad : Nat → Nat) (f : Nat → Int32) (g : Nat → Nat → Int32) (p1 : Int32) (p2 : Int32) (p3 : Int32) : Option (Nat × (Nat → Nat) × (Nat → Int32) × (Nat → Nat → Int32)) := bR (sX2_isRoot  p1) (fun r1 => if r1 = 0 then (some (((1 : Nat), ad, f, g))) else (bR (sX2_isRoot  p3) (fun r4 => if r4 = 0 then (some (((1 : Nat), ad, f, g))) else (bR (sX2_hasField n ad f g p1 p2) (fun r7 => if r7 = 0 then (some (((2 : Nat), ad, f, g))) else (rd (g 0) 16 p3 (fun v10 => if v10 = 0 then (sX2_put_61 n ad f g p1 p2 p3 0) else (sX2_put_61 n ad f g p1 p2 p3 (1 + (f 12))))))))))
set_option maxHeartbeats 4000000 in
set_option maxRecDepth 100000 in
theorem bX2_put {p : Program} {l : Launch} {e : Env} {s : State} {m : MethodId} {args : Array Value} {below : List Frame} {meth : Method} {c : Code} {Q : State → Prop} {A : Nat → Prop} {G : va_G} {cyI cyZ : ClassId} {n x : Nat} (X : rh_X p s m args c cX2_put 5 RX2 wsX2_put G [(cyI, .int), (cyZ, .boolean)] rn_C A) {k' : Nat} {ad' : Nat → Nat} {f' : Nat → Int32} {g' : Nat → Nat → Int32} (ret : ∀ (H : Heap) (locs : List Loc) (ls : Array Slot) (pc : Nat), k' = 0 → decode cX2_put pc = .ok (.return_, 1) → rh_W G A s H locs (cw cyI cyZ n x ad' f' g') → W p l e rmX2_put s m args below meth c H locs 0 0 Q (F0 m pc ls [])) (thr14 : ∀ (H : Heap) (locs : List Loc) (ls : Array Slot), ls.size = 5 → k' = 1 → rh_W G A s H locs (cw cyI cyZ n x ad' f' g') → W p l e rmX2_put s m args below meth c H locs 0 0 Q (F0 m 14 ls [])) (thr31 : ∀ (H : Heap) (locs : List Loc) (ls : Array Slot), ls.size = 5 → k' = 2 → rh_W G A s H locs (cw cyI cyZ n x ad' f' g') → W p l e rmX2_put s m args below meth c H locs 0 0 Q (F0 m 31 ls [])) : ∀ (H : Heap) (locs : List Loc) (ls : Array Slot) (ad : Nat → Nat) (f : Nat → Int32) (g : Nat → Nat → Int32) (p1 : Int32) (p2 : Int32) (p3 : Int32), rh_W G A s H locs (cw cyI cyZ n x ad f g) → lv_has ls 5 [(0, .ref x), (1, .int p1), (2, .int p2), (3, .int p3)] → sX2_put n ad f g p1 p2 p3 = some (k', ad', f', g') → W p l e rmX2_put s m args below meth c H locs 0 0 Q (F0 m 0 ls []) := by
  have hx := X.1
  have hb := X.2.1
  have hown := X.2.2.2.1
  have hts := X.2.2.2.2.1
  have hK := X.2.2.2.2.2.1
  have hNN := X.2.2.2.2.2.2.1.2
  intro H locs ls ad f g p1 p2 p3 h hl hs
  unfold sX2_put at hs
  refine lv_iload_n hx hb dX2_put_0 rfl (lv_at hl 1 rfl) ?_
  obtain ⟨r1, h2, hs⟩ := bR_some hs
  refine rh_Si X h (kX2_isRoot l G h2) (va_cwS 1 hts gX2_put_X2_isRoot rfl rfl rfl (by decide +kernel) ⟨Nat.le_of_ble_eq_true rfl, Nat.le_of_ble_eq_true rfl⟩) rfl hl.1 rfl (Nat.le_of_ble_eq_true rfl) dX2_put_1 ⟨Nat.zero_le _, Nat.zero_le _⟩ (fun H locs h => ?_)
  refine lv_if_eq (tgt := 14) hx hb dX2_put_4 (by decide) (fun c3 => ?_) (fun c3 => ?_)
  · have hs := ite_p c3 hs
    cases hs
    exact thr14 _ _ _ hl.1 rfl h
  · have hs := ite_n c3 hs
    refine lv_iload_n hx hb dX2_put_7 rfl (lv_at hl 3 rfl) ?_
    obtain ⟨r4, h5, hs⟩ := bR_some hs
    refine rh_Si X h (kX2_isRoot l G h5) (va_cwS 1 hts gX2_put_X2_isRoot rfl rfl rfl (by decide +kernel) ⟨Nat.le_of_ble_eq_true rfl, Nat.le_of_ble_eq_true rfl⟩) rfl hl.1 rfl (Nat.le_of_ble_eq_true rfl) dX2_put_8 ⟨Nat.zero_le _, Nat.zero_le _⟩ (fun H locs h => ?_)
    refine lv_if_ne (tgt := 22) hx hb dX2_put_11 (by decide) (fun c6 => ?_) (fun c6 => ?_)
    · have hs := ite_n c6 hs
      refine lv_aload_n hx hb dX2_put_22 rfl (lv_at hl 0 rfl) ?_
      refine lv_iload_n hx hb dX2_put_23 rfl (lv_at hl 1 rfl) ?_
      refine lv_iload_n hx hb dX2_put_24 rfl (lv_at hl 2 rfl) ?_
      obtain ⟨r7, h8, hs⟩ := bR_some hs
      refine rh_Vi X h (kX2_hasField l G (cyI := cyI) (cyZ := cyZ) (x := x) h8) (cwV 2 hts gX2_put_X2_hasField rfl rfl rfl (by decide +kernel) ⟨Nat.le_of_ble_eq_true rfl, Nat.le_of_ble_eq_true rfl⟩) (va_recv hK h.1 (ci := 2) (q0 := 0) rfl rfl) rfl hl.1 rfl (Nat.le_of_ble_eq_true rfl) dX2_put_25 ⟨Nat.zero_le _, Nat.zero_le _⟩ (fun H locs h => ?_)
      refine lv_if_ne (tgt := 39) hx hb dX2_put_28 (by decide) (fun c9 => ?_) (fun c9 => ?_)
      · have hs := ite_n c9 hs
        refine lv_aload_n hx hb dX2_put_39 rfl (lv_at hl 0 rfl) ?_
        refine rh_get X h (v := .ref (ad 4)) iX2_put_X2 0 2 rfl rfl (by decide) (by decide +kernel) rfl dX2_put_40 ?_
        refine lv_iload_n hx hb dX2_put_43 rfl (lv_at hl 3 rfl) ?_
        obtain ⟨i12, v10, e11, hs⟩ := rd_some hs
        refine rh_zald X h 4 1 rfl rfl i12 e11 dX2_put_44 ?_
        refine lv_if_eq (tgt := 60) hx hb dX2_put_45 (by decide) (fun c13 => ?_) (fun c13 => ?_)
        · have hs := ite_p c13 hs
          refine lv_iconst (v := 0) hx hb dX2_put_60 (by decide) ?_
          exact bX2_put_61 X ret thr14 thr31  _ _ _ ad f g p1 p2 p3 0 h (lv_sub hl [0, 1, 2, 3] rfl) hs
        · have hs := ite_n c13 hs
          refine lv_iconst (v := 1) hx hb dX2_put_48 (by decide) ?_
          refine lv_aload_n hx hb dX2_put_49 rfl (lv_at hl 0 rfl) ?_
          refine rh_get X h (v := .ref (ad 2)) iX2_put_X2 0 5 rfl rfl (by decide) (by decide +kernel) rfl dX2_put_50 ?_
          refine rh_getN (host := RX2) X h (v := .int (f 12)) iX2_put_X1 2 0 rfl rfl (by decide) (by decide +kernel) rfl dX2_put_53 ?_
          refine lv_iadd hx hb dX2_put_56 ?_
          refine lv_goto (tgt := 61) hx hb dX2_put_57 (by decide) ?_
          exact bX2_put_61 X ret thr14 thr31  _ _ _ ad f g p1 p2 p3 (1 + (f 12)) h (lv_sub hl [0, 1, 2, 3] rfl) hs
      · have hs := ite_p c9 hs
        cases hs
        exact thr31 _ _ _ hl.1 rfl h
    · have hs := ite_p c6 hs
      cases hs
      exact thr14 _ _ _ hl.1 rfl h
theorem twX2_put_A : rt_w RX2 wsX2_put rn_C "java/lang/IllegalArgumentException" 47 49 := ⟨by decide +kernel, by decide +kernel, fun w hw => List.mem_cons_of_mem _ (List.mem_append_left _ (List.mem_append_right _ hw)), rt_bA, rt_gA, by decide +kernel⟩
theorem twX2_put_S : rt_w RX2 wsX2_put rn_C "java/lang/IllegalStateException" 85 87 := ⟨by decide +kernel, by decide +kernel, fun w hw => List.mem_cons_of_mem _ (List.mem_append_right _ hw), rt_bS, rt_gS, by decide +kernel⟩
set_option maxHeartbeats 4000000 in
theorem kX2_put (l : Launch) (hlt : l.stackTraces = false) (G : va_G) {cyI cyZ : ClassId} {n x : Nat} {ad : Nat → Nat} {f : Nat → Int32} {g : Nat → Nat → Int32} {p1 : Int32} {p2 : Int32} {p3 : Int32} {k' : Nat} {ad' : Nat → Nat} {f' : Nat → Int32} {g' : Nat → Nat → Int32} (hs : sX2_put n ad f g p1 p2 p3 = some (k', ad', f', g')) : rt_Mv rt_nA l yX2_put wsX2_put rmX2_put G [(cyI, .int), (cyZ, .boolean)] rn_C (cw cyI cyZ n x ad f g) [.ref x, .int p1, .int p2, .int p3] k' (cw cyI cyZ n x ad' f' g') :=
  rt_ofv hlt (by decide +kernel) rfl (Nat.le_of_ble_eq_true rfl) rfl rfl (by decide) (by decide) (fun p e s m below meth c A Q X ret thr ls hl h => bX2_put X ret (fun H locs ls hls hk h => thr H locs ls 14 47 49 "java/lang/IllegalArgumentException" hls (by rw [hk]; decide) (by rw [hk]; rfl) twX2_put_A dX2_put_14 dX2_put_17 dX2_put_18 dX2_put_21 h) (fun H locs ls hls hk h => thr H locs ls 31 85 87 "java/lang/IllegalStateException" hls (by rw [hk]; decide) (by rw [hk]; rfl) twX2_put_S dX2_put_31 dX2_put_34 dX2_put_35 dX2_put_38 h) _ _ ls ad f g p1 p2 p3 h hl hs)
abbrev rmX2_putNumber : Room := { frames := 6, cells := 1, slots := 6, locals := 138 }
set_option maxRecDepth 100000 in
theorem iX2_putNumber_X2 : ∀ w ∈ u_ws RX2 TX2 15, w ∈ wsX2_putNumber := by decide +kernel
def sX2_putNumber (n : Nat) (ad : Nat → Nat) (f : Nat → Int32) (g : Nat → Nat → Int32) (p1 : Int32) (p2 : Int32) (p3 : Int32) : Option (Nat × (Nat → Nat) × (Nat → Int32) × (Nat → Nat → Int32)) := bR (sX2_isRoot  p1) (fun r1 => if r1 = 0 then (some (((1 : Nat), ad, f, g))) else (bR (sX2_hasField n ad f g p1 p2) (fun r4 => if r4 = 0 then (some (((2 : Nat), ad, f, g))) else (rd (g 1) 16 p1 (fun v7 => bFv (sX2_change n ad f g v7 p2 0 p3) (fun ad10 f11 g12 => some (((0 : Nat), ad10, f11, g12))))))))
set_option maxHeartbeats 4000000 in
set_option maxRecDepth 100000 in
theorem bX2_putNumber {p : Program} {l : Launch} {e : Env} {s : State} {m : MethodId} {args : Array Value} {below : List Frame} {meth : Method} {c : Code} {Q : State → Prop} {A : Nat → Prop} {G : va_G} {cyI cyZ : ClassId} {n x : Nat} (X : rh_X p s m args c cX2_putNumber 4 RX2 wsX2_putNumber G [(cyI, .int), (cyZ, .boolean)] rn_C A) {k' : Nat} {ad' : Nat → Nat} {f' : Nat → Int32} {g' : Nat → Nat → Int32} (ret : ∀ (H : Heap) (locs : List Loc) (ls : Array Slot) (pc : Nat), k' = 0 → decode cX2_putNumber pc = .ok (.return_, 1) → rh_W G A s H locs (cw cyI cyZ n x ad' f' g') → W p l e rmX2_putNumber s m args below meth c H locs 0 0 Q (F0 m pc ls [])) (thr7 : ∀ (H : Heap) (locs : List Loc) (ls : Array Slot), ls.size = 4 → k' = 1 → rh_W G A s H locs (cw cyI cyZ n x ad' f' g') → W p l e rmX2_putNumber s m args below meth c H locs 0 0 Q (F0 m 7 ls [])) (thr24 : ∀ (H : Heap) (locs : List Loc) (ls : Array Slot), ls.size = 4 → k' = 2 → rh_W G A s H locs (cw cyI cyZ n x ad' f' g') → W p l e rmX2_putNumber s m args below meth c H locs 0 0 Q (F0 m 24 ls [])) : ∀ (H : Heap) (locs : List Loc) (ls : Array Slot) (ad : Nat → Nat) (f : Nat → Int32) (g : Nat → Nat → Int32) (p1 : Int32) (p2 : Int32) (p3 : Int32), rh_W G A s H locs (cw cyI cyZ n x ad f g) → lv_has ls 4 [(0, .ref x), (1, .int p1), (2, .int p2), (3, .int p3)] → sX2_putNumber n ad f g p1 p2 p3 = some (k', ad', f', g') → W p l e rmX2_putNumber s m args below meth c H locs 0 0 Q (F0 m 0 ls []) := by
  have hx := X.1
  have hb := X.2.1
  have hown := X.2.2.2.1
  have hts := X.2.2.2.2.1
  have hK := X.2.2.2.2.2.1
  have hNN := X.2.2.2.2.2.2.1.2
  intro H locs ls ad f g p1 p2 p3 h hl hs
  unfold sX2_putNumber at hs
  refine lv_iload_n hx hb dX2_putNumber_0 rfl (lv_at hl 1 rfl) ?_
  obtain ⟨r1, h2, hs⟩ := bR_some hs
  refine rh_Si X h (kX2_isRoot l G h2) (va_cwS 1 hts gX2_putNumber_X2_isRoot rfl rfl rfl (by decide +kernel) ⟨Nat.le_of_ble_eq_true rfl, Nat.le_of_ble_eq_true rfl⟩) rfl hl.1 rfl (Nat.le_of_ble_eq_true rfl) dX2_putNumber_1 ⟨Nat.zero_le _, Nat.zero_le _⟩ (fun H locs h => ?_)
  refine lv_if_ne (tgt := 15) hx hb dX2_putNumber_4 (by decide) (fun c3 => ?_) (fun c3 => ?_)
  · have hs := ite_n c3 hs
    refine lv_aload_n hx hb dX2_putNumber_15 rfl (lv_at hl 0 rfl) ?_
    refine lv_iload_n hx hb dX2_putNumber_16 rfl (lv_at hl 1 rfl) ?_
    refine lv_iload_n hx hb dX2_putNumber_17 rfl (lv_at hl 2 rfl) ?_
    obtain ⟨r4, h5, hs⟩ := bR_some hs
    refine rh_Vi X h (kX2_hasField l G (cyI := cyI) (cyZ := cyZ) (x := x) h5) (cwV 2 hts gX2_putNumber_X2_hasField rfl rfl rfl (by decide +kernel) ⟨Nat.le_of_ble_eq_true rfl, Nat.le_of_ble_eq_true rfl⟩) (va_recv hK h.1 (ci := 2) (q0 := 0) rfl rfl) rfl hl.1 rfl (Nat.le_of_ble_eq_true rfl) dX2_putNumber_18 ⟨Nat.zero_le _, Nat.zero_le _⟩ (fun H locs h => ?_)
    refine lv_if_ne (tgt := 32) hx hb dX2_putNumber_21 (by decide) (fun c6 => ?_) (fun c6 => ?_)
    · have hs := ite_n c6 hs
      refine lv_aload_n hx hb dX2_putNumber_32 rfl (lv_at hl 0 rfl) ?_
      refine lv_aload_n hx hb dX2_putNumber_33 rfl (lv_at hl 0 rfl) ?_
      refine rh_get X h (v := .ref (ad 5)) iX2_putNumber_X2 0 3 rfl rfl (by decide) (by decide +kernel) rfl dX2_putNumber_34 ?_
      refine lv_iload_n hx hb dX2_putNumber_37 rfl (lv_at hl 1 rfl) ?_
      obtain ⟨i9, v7, e8, hs⟩ := rd_some hs
      refine rh_iald X h 5 0 rfl rfl i9 e8 dX2_putNumber_38 ?_
      refine lv_iload_n hx hb dX2_putNumber_39 rfl (lv_at hl 2 rfl) ?_
      refine lv_iconst (v := 0) hx hb dX2_putNumber_40 (by decide) ?_
      refine lv_iload_n hx hb dX2_putNumber_41 rfl (lv_at hl 3 rfl) ?_
      obtain ⟨ad10, f11, g12, h13, hs⟩ := bFv_some hs
      refine rh_Vv X h (kX2_change l G (cyI := cyI) (cyZ := cyZ) (x := x) h13) (cwV 4 hts gX2_putNumber_X2_change rfl rfl rfl (by decide +kernel) ⟨Nat.le_of_ble_eq_true rfl, Nat.le_of_ble_eq_true rfl⟩) (va_recv hK h.1 (ci := 2) (q0 := 0) rfl rfl) rfl hl.1 rfl (Nat.le_of_ble_eq_true rfl) dX2_putNumber_42 ⟨Nat.zero_le _, Nat.zero_le _⟩ (fun H locs h => ?_)
      cases hs
      exact ret _ _ _ _ rfl dX2_putNumber_45 h
    · have hs := ite_p c6 hs
      cases hs
      exact thr24 _ _ _ hl.1 rfl h
  · have hs := ite_p c3 hs
    cases hs
    exact thr7 _ _ _ hl.1 rfl h
theorem twX2_putNumber_A : rt_w RX2 wsX2_putNumber rn_C "java/lang/IllegalArgumentException" 47 49 := ⟨by decide +kernel, by decide +kernel, fun w hw => List.mem_cons_of_mem _ (List.mem_append_left _ (List.mem_append_right _ hw)), rt_bA, rt_gA, by decide +kernel⟩
theorem twX2_putNumber_S : rt_w RX2 wsX2_putNumber rn_C "java/lang/IllegalStateException" 85 87 := ⟨by decide +kernel, by decide +kernel, fun w hw => List.mem_cons_of_mem _ (List.mem_append_right _ hw), rt_bS, rt_gS, by decide +kernel⟩
set_option maxHeartbeats 4000000 in
theorem kX2_putNumber (l : Launch) (hlt : l.stackTraces = false) (G : va_G) {cyI cyZ : ClassId} {n x : Nat} {ad : Nat → Nat} {f : Nat → Int32} {g : Nat → Nat → Int32} {p1 : Int32} {p2 : Int32} {p3 : Int32} {k' : Nat} {ad' : Nat → Nat} {f' : Nat → Int32} {g' : Nat → Nat → Int32} (hs : sX2_putNumber n ad f g p1 p2 p3 = some (k', ad', f', g')) : rt_Mv rt_nA l yX2_putNumber wsX2_putNumber rmX2_putNumber G [(cyI, .int), (cyZ, .boolean)] rn_C (cw cyI cyZ n x ad f g) [.ref x, .int p1, .int p2, .int p3] k' (cw cyI cyZ n x ad' f' g') :=
  rt_ofv hlt (by decide +kernel) rfl (Nat.le_of_ble_eq_true rfl) rfl rfl (by decide) (by decide) (fun p e s m below meth c A Q X ret thr ls hl h => bX2_putNumber X ret (fun H locs ls hls hk h => thr H locs ls 7 47 49 "java/lang/IllegalArgumentException" hls (by rw [hk]; decide) (by rw [hk]; rfl) twX2_putNumber_A dX2_putNumber_7 dX2_putNumber_10 dX2_putNumber_11 dX2_putNumber_14 h) (fun H locs ls hls hk h => thr H locs ls 24 85 87 "java/lang/IllegalStateException" hls (by rw [hk]; decide) (by rw [hk]; rfl) twX2_putNumber_S dX2_putNumber_24 dX2_putNumber_27 dX2_putNumber_28 dX2_putNumber_31 h) _ _ ls ad f g p1 p2 p3 h hl hs)
abbrev rmX2_get : Room := { frames := 6, cells := 1, slots := 6, locals := 90 }
set_option maxRecDepth 100000 in
theorem iX2_get_X1 : ∀ w ∈ u_ws RX1 TX1 5, w ∈ wsX2_get := by decide +kernel
set_option maxRecDepth 100000 in
theorem iX2_get_X2 : ∀ w ∈ u_ws RX2 TX2 15, w ∈ wsX2_get := by decide +kernel
def sX2_get_71 (n : Nat) (ad : Nat → Nat) (f : Nat → Int32) (g : Nat → Nat → Int32) (v4 : Int32) (t1 : Int32) (t2 : Int32) : Option (Nat × (Nat → Int32) × (Nat → Nat → Int32)) := rd (g 5) n v4 (fun v17 => bWv (sX2_setRoot n ad f g t1 t2 v17) (fun f20 g21 => some (((0 : Nat), f20, g21))))
set_option maxHeartbeats 4000000 in
set_option maxRecDepth 100000 in
theorem bX2_get_71 {p : Program} {l : Launch} {e : Env} {s : State} {m : MethodId} {args : Array Value} {below : List Frame} {meth : Method} {c : Code} {Q : State → Prop} {A : Nat → Prop} {G : va_G} {cyI cyZ : ClassId} {n x : Nat} {ad : Nat → Nat} (X : rh_X p s m args c cX2_get 5 RX2 wsX2_get G [(cyI, .int), (cyZ, .boolean)] rn_C A) {k' : Nat} {f' : Nat → Int32} {g' : Nat → Nat → Int32} (ret : ∀ (H : Heap) (locs : List Loc) (ls : Array Slot) (pc : Nat), k' = 0 → decode cX2_get pc = .ok (.return_, 1) → rh_W G A s H locs (cw cyI cyZ n x ad f' g') → W p l e rmX2_get s m args below meth c H locs 0 0 Q (F0 m pc ls [])) (thr14 : ∀ (H : Heap) (locs : List Loc) (ls : Array Slot), ls.size = 5 → k' = 1 → rh_W G A s H locs (cw cyI cyZ n x ad f' g') → W p l e rmX2_get s m args below meth c H locs 0 0 Q (F0 m 14 ls [])) (thr31 : ∀ (H : Heap) (locs : List Loc) (ls : Array Slot), ls.size = 5 → k' = 2 → rh_W G A s H locs (cw cyI cyZ n x ad f' g') → W p l e rmX2_get s m args below meth c H locs 0 0 Q (F0 m 31 ls [])) : ∀ (H : Heap) (locs : List Loc) (ls : Array Slot) (f : Nat → Int32) (g : Nat → Nat → Int32) (v4 : Int32) (t1 : Int32) (t2 : Int32), rh_W G A s H locs (cw cyI cyZ n x ad f g) → lv_has ls 5 [(0, .ref x), (4, .int v4)] → sX2_get_71 n ad f g v4 t1 t2 = some (k', f', g') → W p l e rmX2_get s m args below meth c H locs 0 0 Q (F0 m 71 ls [.int t2, .int t1, .ref x]) := by
  have hx := X.1
  have hb := X.2.1
  have hown := X.2.2.2.1
  have hts := X.2.2.2.2.1
  have hK := X.2.2.2.2.2.1
  have hNN := X.2.2.2.2.2.2.1.2
  intro H locs ls f g v4 t1 t2 h hl hs
  unfold sX2_get_71 at hs
  refine lv_aload_n hx hb dX2_get_71 rfl (lv_at hl 0 rfl) ?_
  refine rh_get X h (v := .ref (ad 2)) iX2_get_X2 0 5 rfl rfl (by decide) (by decide +kernel) rfl dX2_get_72 ?_
  refine rh_getN (host := RX2) X h (v := .ref (ad 9)) iX2_get_X1 2 2 rfl rfl (by decide) (by decide +kernel) rfl dX2_get_75 ?_
  refine lv_iload hx hb dX2_get_78 (lv_at hl 1 rfl) ?_
  obtain ⟨i19, v17, e18, hs⟩ := rd_some hs
  refine rh_iald X h 9 0 rfl rfl i19 e18 dX2_get_80 ?_
  obtain ⟨f20, g21, h22, hs⟩ := bWv_some hs
  refine rh_Vv X h (kX2_setRoot l G (cyI := cyI) (cyZ := cyZ) (x := x) h22) (cwV 3 hts gX2_get_X2_setRoot rfl rfl rfl (by decide +kernel) ⟨Nat.le_of_ble_eq_true rfl, Nat.le_of_ble_eq_true rfl⟩) (va_recv hK h.1 (ci := 2) (q0 := 0) rfl rfl) rfl hl.1 rfl (Nat.le_of_ble_eq_true rfl) dX2_get_81 ⟨Nat.zero_le _, Nat.zero_le _⟩ (fun H locs h => ?_)
  cases hs
  exact ret _ _ _ _ rfl dX2_get_84 h
def sX2_get (n : Nat) (ad : Nat → Nat) (f : Nat → Int32) (g : Nat → Nat → Int32) (p1 : Int32) (p2 : Int32) (p3 : Int32) : Option (Nat × (Nat → Int32) × (Nat → Nat → Int32)) := bR (sX2_isRoot  p1) (fun r1 => if r1 = 0 then (some (((1 : Nat), f, g))) else (bR (sX2_isRoot  p2) (fun r4 => if r4 = 0 then (some (((1 : Nat), f, g))) else (bR (sX2_hasField n ad f g p2 p3) (fun r7 => if r7 = 0 then (some (((2 : Nat), f, g))) else (rd (g 1) 16 p2 (fun v10 => rd (g 4) n ((v10 + 1) + p3) (fun v13 => if v13 = 0 then (sX2_get_71 n ad f g ((v10 + 1) + p3) p1 0) else (sX2_get_71 n ad f g ((v10 + 1) + p3) p1 1)))))))))
set_option maxHeartbeats 4000000 in
set_option maxRecDepth 100000 in
theorem bX2_get {p : Program} {l : Launch} {e : Env} {s : State} {m : MethodId} {args : Array Value} {below : List Frame} {meth : Method} {c : Code} {Q : State → Prop} {A : Nat → Prop} {G : va_G} {cyI cyZ : ClassId} {n x : Nat} {ad : Nat → Nat} (X : rh_X p s m args c cX2_get 5 RX2 wsX2_get G [(cyI, .int), (cyZ, .boolean)] rn_C A) {k' : Nat} {f' : Nat → Int32} {g' : Nat → Nat → Int32} (ret : ∀ (H : Heap) (locs : List Loc) (ls : Array Slot) (pc : Nat), k' = 0 → decode cX2_get pc = .ok (.return_, 1) → rh_W G A s H locs (cw cyI cyZ n x ad f' g') → W p l e rmX2_get s m args below meth c H locs 0 0 Q (F0 m pc ls [])) (thr14 : ∀ (H : Heap) (locs : List Loc) (ls : Array Slot), ls.size = 5 → k' = 1 → rh_W G A s H locs (cw cyI cyZ n x ad f' g') → W p l e rmX2_get s m args below meth c H locs 0 0 Q (F0 m 14 ls [])) (thr31 : ∀ (H : Heap) (locs : List Loc) (ls : Array Slot), ls.size = 5 → k' = 2 → rh_W G A s H locs (cw cyI cyZ n x ad f' g') → W p l e rmX2_get s m args below meth c H locs 0 0 Q (F0 m 31 ls [])) : ∀ (H : Heap) (locs : List Loc) (ls : Array Slot) (f : Nat → Int32) (g : Nat → Nat → Int32) (p1 : Int32) (p2 : Int32) (p3 : Int32), rh_W G A s H locs (cw cyI cyZ n x ad f g) → lv_has ls 5 [(0, .ref x), (1, .int p1), (2, .int p2), (3, .int p3)] → sX2_get n ad f g p1 p2 p3 = some (k', f', g') → W p l e rmX2_get s m args below meth c H locs 0 0 Q (F0 m 0 ls []) := by
  have hx := X.1
  have hb := X.2.1
  have hown := X.2.2.2.1
  have hts := X.2.2.2.2.1
  have hK := X.2.2.2.2.2.1
  have hNN := X.2.2.2.2.2.2.1.2
  intro H locs ls f g p1 p2 p3 h hl hs
  unfold sX2_get at hs
  refine lv_iload_n hx hb dX2_get_0 rfl (lv_at hl 1 rfl) ?_
  obtain ⟨r1, h2, hs⟩ := bR_some hs
  refine rh_Si X h (kX2_isRoot l G h2) (va_cwS 1 hts gX2_get_X2_isRoot rfl rfl rfl (by decide +kernel) ⟨Nat.le_of_ble_eq_true rfl, Nat.le_of_ble_eq_true rfl⟩) rfl hl.1 rfl (Nat.le_of_ble_eq_true rfl) dX2_get_1 ⟨Nat.zero_le _, Nat.zero_le _⟩ (fun H locs h => ?_)
  refine lv_if_eq (tgt := 14) hx hb dX2_get_4 (by decide) (fun c3 => ?_) (fun c3 => ?_)
  · have hs := ite_p c3 hs
    cases hs
    exact thr14 _ _ _ hl.1 rfl h
  · have hs := ite_n c3 hs
    refine lv_iload_n hx hb dX2_get_7 rfl (lv_at hl 2 rfl) ?_
    obtain ⟨r4, h5, hs⟩ := bR_some hs
    refine rh_Si X h (kX2_isRoot l G h5) (va_cwS 1 hts gX2_get_X2_isRoot rfl rfl rfl (by decide +kernel) ⟨Nat.le_of_ble_eq_true rfl, Nat.le_of_ble_eq_true rfl⟩) rfl hl.1 rfl (Nat.le_of_ble_eq_true rfl) dX2_get_8 ⟨Nat.zero_le _, Nat.zero_le _⟩ (fun H locs h => ?_)
    refine lv_if_ne (tgt := 22) hx hb dX2_get_11 (by decide) (fun c6 => ?_) (fun c6 => ?_)
    · have hs := ite_n c6 hs
      refine lv_aload_n hx hb dX2_get_22 rfl (lv_at hl 0 rfl) ?_
      refine lv_iload_n hx hb dX2_get_23 rfl (lv_at hl 2 rfl) ?_
      refine lv_iload_n hx hb dX2_get_24 rfl (lv_at hl 3 rfl) ?_
      obtain ⟨r7, h8, hs⟩ := bR_some hs
      refine rh_Vi X h (kX2_hasField l G (cyI := cyI) (cyZ := cyZ) (x := x) h8) (cwV 2 hts gX2_get_X2_hasField rfl rfl rfl (by decide +kernel) ⟨Nat.le_of_ble_eq_true rfl, Nat.le_of_ble_eq_true rfl⟩) (va_recv hK h.1 (ci := 2) (q0 := 0) rfl rfl) rfl hl.1 rfl (Nat.le_of_ble_eq_true rfl) dX2_get_25 ⟨Nat.zero_le _, Nat.zero_le _⟩ (fun H locs h => ?_)
      refine lv_if_ne (tgt := 39) hx hb dX2_get_28 (by decide) (fun c9 => ?_) (fun c9 => ?_)
      · have hs := ite_n c9 hs
        refine lv_aload_n hx hb dX2_get_39 rfl (lv_at hl 0 rfl) ?_
        refine rh_get X h (v := .ref (ad 5)) iX2_get_X2 0 3 rfl rfl (by decide) (by decide +kernel) rfl dX2_get_40 ?_
        refine lv_iload_n hx hb dX2_get_43 rfl (lv_at hl 2 rfl) ?_
        obtain ⟨i12, v10, e11, hs⟩ := rd_some hs
        refine rh_iald X h 5 0 rfl rfl i12 e11 dX2_get_44 ?_
        refine lv_iconst (v := 1) hx hb dX2_get_45 (by decide) ?_
        refine lv_iadd hx hb dX2_get_46 ?_
        refine lv_iload_n hx hb dX2_get_47 rfl (lv_at hl 3 rfl) ?_
        refine lv_iadd hx hb dX2_get_48 ?_
        refine lv_istore (lv' := [(4, .int ((v10 + 1) + p3)), (0, .ref x), (1, .int p1), (2, .int p2), (3, .int p3)]) hx hb dX2_get_49 hl (by decide) rfl (fun ls hl => ?_)
        refine lv_aload_n hx hb dX2_get_51 rfl (lv_at hl 1 rfl) ?_
        refine lv_iload_n hx hb dX2_get_52 rfl (lv_at hl 2 rfl) ?_
        refine lv_aload_n hx hb dX2_get_53 rfl (lv_at hl 1 rfl) ?_
        refine rh_get X h (v := .ref (ad 2)) iX2_get_X2 0 5 rfl rfl (by decide) (by decide +kernel) rfl dX2_get_54 ?_
        refine rh_getN (host := RX2) X h (v := .ref (ad 8)) iX2_get_X1 2 1 rfl rfl (by decide) (by decide +kernel) rfl dX2_get_57 ?_
        refine lv_iload hx hb dX2_get_60 (lv_at hl 0 rfl) ?_
        obtain ⟨i15, v13, e14, hs⟩ := rd_some hs
        refine rh_iald X h 8 0 rfl rfl i15 e14 dX2_get_62 ?_
        refine lv_if_eq (tgt := 70) hx hb dX2_get_63 (by decide) (fun c16 => ?_) (fun c16 => ?_)
        · have hs := ite_p c16 hs
          refine lv_iconst (v := 0) hx hb dX2_get_70 (by decide) ?_
          exact bX2_get_71 X ret thr14 thr31  _ _ _ f g ((v10 + 1) + p3) p1 0 h (lv_sub hl [1, 0] rfl) hs
        · have hs := ite_n c16 hs
          refine lv_iconst (v := 1) hx hb dX2_get_66 (by decide) ?_
          refine lv_goto (tgt := 71) hx hb dX2_get_67 (by decide) ?_
          exact bX2_get_71 X ret thr14 thr31  _ _ _ f g ((v10 + 1) + p3) p1 1 h (lv_sub hl [1, 0] rfl) hs
      · have hs := ite_p c9 hs
        cases hs
        exact thr31 _ _ _ hl.1 rfl h
    · have hs := ite_p c6 hs
      cases hs
      exact thr14 _ _ _ hl.1 rfl h
theorem twX2_get_A : rt_w RX2 wsX2_get rn_C "java/lang/IllegalArgumentException" 47 49 := ⟨by decide +kernel, by decide +kernel, fun w hw => List.mem_cons_of_mem _ (List.mem_append_left _ (List.mem_append_right _ hw)), rt_bA, rt_gA, by decide +kernel⟩
theorem twX2_get_S : rt_w RX2 wsX2_get rn_C "java/lang/IllegalStateException" 85 87 := ⟨by decide +kernel, by decide +kernel, fun w hw => List.mem_cons_of_mem _ (List.mem_append_right _ hw), rt_bS, rt_gS, by decide +kernel⟩
set_option maxHeartbeats 4000000 in
theorem kX2_get (l : Launch) (hlt : l.stackTraces = false) (G : va_G) {cyI cyZ : ClassId} {n x : Nat} {ad : Nat → Nat} {f : Nat → Int32} {g : Nat → Nat → Int32} {p1 : Int32} {p2 : Int32} {p3 : Int32} {k' : Nat} {f' : Nat → Int32} {g' : Nat → Nat → Int32} (hs : sX2_get n ad f g p1 p2 p3 = some (k', f', g')) : rt_Mv rt_nA l yX2_get wsX2_get rmX2_get G [(cyI, .int), (cyZ, .boolean)] rn_C (cw cyI cyZ n x ad f g) [.ref x, .int p1, .int p2, .int p3] k' (cw cyI cyZ n x ad f' g') :=
  rt_ofv hlt (by decide +kernel) rfl (Nat.le_of_ble_eq_true rfl) rfl rfl (by decide) (by decide) (fun p e s m below meth c A Q X ret thr ls hl h => bX2_get X ret (fun H locs ls hls hk h => thr H locs ls 14 47 49 "java/lang/IllegalArgumentException" hls (by rw [hk]; decide) (by rw [hk]; rfl) twX2_get_A dX2_get_14 dX2_get_17 dX2_get_18 dX2_get_21 h) (fun H locs ls hls hk h => thr H locs ls 31 85 87 "java/lang/IllegalStateException" hls (by rw [hk]; decide) (by rw [hk]; rfl) twX2_get_S dX2_get_31 dX2_get_34 dX2_get_35 dX2_get_38 h) _ _ ls f g p1 p2 p3 h hl hs)
abbrev rmX2_collect : Room := { frames := 6, cells := 1, slots := 6, locals := 114 }
set_option maxRecDepth 100000 in
theorem iX2_collect_X2 : ∀ w ∈ u_ws RX2 TX2 15, w ∈ wsX2_collect := by decide +kernel
def sX2_collect_35 (n : Nat) (ad : Nat → Nat) (f : Nat → Int32) (g : Nat → Nat → Int32) (t1 : Int32) : Option (Nat × Int32 × (Nat → Nat) × (Nat → Int32) × (Nat → Nat → Int32)) := bFv (sX2_work n ad f g t1) (fun ad3 f4 g5 => some (((0 : Nat), f4 8, ad3, f4, g5)))
set_option maxHeartbeats 4000000 in
set_option maxRecDepth 100000 in
theorem bX2_collect_35 {p : Program} {l : Launch} {e : Env} {s : State} {m : MethodId} {args : Array Value} {below : List Frame} {meth : Method} {c : Code} {Q : State → Prop} {A : Nat → Prop} {G : va_G} {cyI cyZ : ClassId} {n x : Nat} (X : rh_X p s m args c cX2_collect 2 RX2 wsX2_collect G [(cyI, .int), (cyZ, .boolean)] rn_C A) {k' : Nat} {r' : Int32} {ad' : Nat → Nat} {f' : Nat → Int32} {g' : Nat → Nat → Int32} (ret : ∀ (H : Heap) (locs : List Loc) (ls : Array Slot) (pc : Nat), k' = 0 → narrow .int (.int r') = .int r' → decode cX2_collect pc = .ok (.ireturn, 1) → rh_W G A s H locs (cw cyI cyZ n x ad' f' g') → W p l e rmX2_collect s m args below meth c H locs 0 0 Q (F0 m pc ls [.int r'])) (thr5 : ∀ (H : Heap) (locs : List Loc) (ls : Array Slot), ls.size = 2 → k' = 1 → rh_W G A s H locs (cw cyI cyZ n x ad' f' g') → W p l e rmX2_collect s m args below meth c H locs 0 0 Q (F0 m 5 ls [])) : ∀ (H : Heap) (locs : List Loc) (ls : Array Slot) (ad : Nat → Nat) (f : Nat → Int32) (g : Nat → Nat → Int32) (t1 : Int32), rh_W G A s H locs (cw cyI cyZ n x ad f g) → lv_has ls 2 [(0, .ref x)] → sX2_collect_35 n ad f g t1 = some (k', r', ad', f', g') → W p l e rmX2_collect s m args below meth c H locs 0 0 Q (F0 m 35 ls [.int t1, .ref x]) := by
  have hx := X.1
  have hb := X.2.1
  have hown := X.2.2.2.1
  have hts := X.2.2.2.2.1
  have hK := X.2.2.2.2.2.1
  have hNN := X.2.2.2.2.2.2.1.2
  intro H locs ls ad f g t1 h hl hs
  unfold sX2_collect_35 at hs
  obtain ⟨ad3, f4, g5, h6, hs⟩ := bFv_some hs
  refine rh_Vv X h (kX2_work l G (cyI := cyI) (cyZ := cyZ) (x := x) h6) (cwV 1 hts gX2_collect_X2_work rfl rfl rfl (by decide +kernel) ⟨Nat.le_of_ble_eq_true rfl, Nat.le_of_ble_eq_true rfl⟩) (va_recv hK h.1 (ci := 2) (q0 := 0) rfl rfl) rfl hl.1 rfl (Nat.le_of_ble_eq_true rfl) dX2_collect_35 ⟨Nat.zero_le _, Nat.zero_le _⟩ (fun H locs h => ?_)
  refine lv_aload_n hx hb dX2_collect_38 rfl (lv_at hl 0 rfl) ?_
  refine rh_get X h (v := .int (f4 8)) iX2_collect_X2 0 13 rfl rfl (by decide) (by decide +kernel) rfl dX2_collect_39 ?_
  cases hs
  exact ret _ _ _ _ rfl rfl dX2_collect_42 h
def sX2_collect (n : Nat) (ad : Nat → Nat) (f : Nat → Int32) (g : Nat → Nat → Int32) (p1 : Int32) : Option (Nat × Int32 × (Nat → Nat) × (Nat → Int32) × (Nat → Nat → Int32)) := if (-1) ≤ p1 then (if p1 = (-1) then (sX2_collect_35 n ad (upd (upd f 8 0) 2 1) g 1000000) else (sX2_collect_35 n ad (upd (upd f 8 0) 2 1) g p1)) else (some (((1 : Nat), 0, ad, f, g)))
set_option maxHeartbeats 4000000 in
set_option maxRecDepth 100000 in
theorem bX2_collect {p : Program} {l : Launch} {e : Env} {s : State} {m : MethodId} {args : Array Value} {below : List Frame} {meth : Method} {c : Code} {Q : State → Prop} {A : Nat → Prop} {G : va_G} {cyI cyZ : ClassId} {n x : Nat} (X : rh_X p s m args c cX2_collect 2 RX2 wsX2_collect G [(cyI, .int), (cyZ, .boolean)] rn_C A) {k' : Nat} {r' : Int32} {ad' : Nat → Nat} {f' : Nat → Int32} {g' : Nat → Nat → Int32} (ret : ∀ (H : Heap) (locs : List Loc) (ls : Array Slot) (pc : Nat), k' = 0 → narrow .int (.int r') = .int r' → decode cX2_collect pc = .ok (.ireturn, 1) → rh_W G A s H locs (cw cyI cyZ n x ad' f' g') → W p l e rmX2_collect s m args below meth c H locs 0 0 Q (F0 m pc ls [.int r'])) (thr5 : ∀ (H : Heap) (locs : List Loc) (ls : Array Slot), ls.size = 2 → k' = 1 → rh_W G A s H locs (cw cyI cyZ n x ad' f' g') → W p l e rmX2_collect s m args below meth c H locs 0 0 Q (F0 m 5 ls [])) : ∀ (H : Heap) (locs : List Loc) (ls : Array Slot) (ad : Nat → Nat) (f : Nat → Int32) (g : Nat → Nat → Int32) (p1 : Int32), rh_W G A s H locs (cw cyI cyZ n x ad f g) → lv_has ls 2 [(0, .ref x), (1, .int p1)] → sX2_collect n ad f g p1 = some (k', r', ad', f', g') → W p l e rmX2_collect s m args below meth c H locs 0 0 Q (F0 m 0 ls []) := by
  have hx := X.1
  have hb := X.2.1
  have hown := X.2.2.2.1
  have hts := X.2.2.2.2.1
  have hK := X.2.2.2.2.2.1
  have hNN := X.2.2.2.2.2.2.1.2
  intro H locs ls ad f g p1 h hl hs
  unfold sX2_collect at hs
  refine lv_iload_n hx hb dX2_collect_0 rfl (lv_at hl 1 rfl) ?_
  refine lv_iconst (v := (-1)) hx hb dX2_collect_1 (by decide) ?_
  refine lv_icmp_ge (tgt := 13) hx hb dX2_collect_2 (by decide) (fun c1 => ?_) (fun c1 => ?_)
  · have hs := ite_p c1 hs
    refine lv_aload_n hx hb dX2_collect_13 rfl (lv_at hl 0 rfl) ?_
    refine lv_iconst (v := 0) hx hb dX2_collect_14 (by decide) ?_
    refine rh_put X h iX2_collect_X2 tyX2 tyX2_ok nmX2 0 13 rfl rfl (by decide) (by decide +kernel) rfl rfl rfl (Nat.le_of_ble_eq_true rfl) dX2_collect_15 (fun H locs h => ?_)
    have h : rh_W G A s H locs (cw cyI cyZ n x ad (upd f 8 0) g) := cp_8 h
    refine lv_aload_n hx hb dX2_collect_18 rfl (lv_at hl 0 rfl) ?_
    refine lv_iconst (v := 1) hx hb dX2_collect_19 (by decide) ?_
    refine rh_put X h iX2_collect_X2 tyX2 tyX2_ok nmX2 0 7 rfl rfl (by decide) (by decide +kernel) rfl rfl rfl (Nat.le_of_ble_eq_true rfl) dX2_collect_20 (fun H locs h => ?_)
    have h : rh_W G A s H locs (cw cyI cyZ n x ad (upd (upd f 8 0) 2 1) g) := cp_2 h
    refine lv_aload_n hx hb dX2_collect_23 rfl (lv_at hl 0 rfl) ?_
    refine lv_iload_n hx hb dX2_collect_24 rfl (lv_at hl 1 rfl) ?_
    refine lv_iconst (v := (-1)) hx hb dX2_collect_25 (by decide) ?_
    refine lv_icmp_ne (tgt := 34) hx hb dX2_collect_26 (by decide) (fun c2 => ?_) (fun c2 => ?_)
    · have hs := ite_n c2 hs
      refine lv_iload_n hx hb dX2_collect_34 rfl (lv_at hl 1 rfl) ?_
      exact bX2_collect_35 X ret thr5  _ _ _ ad (upd (upd f 8 0) 2 1) g p1 h (lv_sub hl [0] rfl) hs
    · have hs := ite_p c2 hs
      refine lv_ldc (v := 1000000) hx hb hown (hts (.constant RX2 101 (1000000)) (by decide +kernel)) dX2_collect_29 ?_
      refine lv_goto (tgt := 35) hx hb dX2_collect_31 (by decide) ?_
      exact bX2_collect_35 X ret thr5  _ _ _ ad (upd (upd f 8 0) 2 1) g 1000000 h (lv_sub hl [0] rfl) hs
  · have hs := ite_n c1 hs
    cases hs
    exact thr5 _ _ _ hl.1 rfl h
theorem twX2_collect_A : rt_w RX2 wsX2_collect rn_C "java/lang/IllegalArgumentException" 47 49 := ⟨by decide +kernel, by decide +kernel, fun w hw => List.mem_cons_of_mem _ (List.mem_append_right _ hw), rt_bA, rt_gA, by decide +kernel⟩
set_option maxHeartbeats 4000000 in
theorem kX2_collect (l : Launch) (hlt : l.stackTraces = false) (G : va_G) {cyI cyZ : ClassId} {n x : Nat} {ad : Nat → Nat} {f : Nat → Int32} {g : Nat → Nat → Int32} {p1 : Int32} {k' : Nat} {r' : Int32} {ad' : Nat → Nat} {f' : Nat → Int32} {g' : Nat → Nat → Int32} (hs : sX2_collect n ad f g p1 = some (k', r', ad', f', g')) : rt_Mi rt_nC l yX2_collect wsX2_collect rmX2_collect G [(cyI, .int), (cyZ, .boolean)] rn_C (cw cyI cyZ n x ad f g) [.ref x, .int p1] k' r' (cw cyI cyZ n x ad' f' g') :=
  rt_ofi hlt (by decide +kernel) rfl (Nat.le_of_ble_eq_true rfl) rfl rfl (by decide) (by decide) (fun p e s m below meth c A Q X ret thr ls hl h => bX2_collect X ret (fun H locs ls hls hk h => thr H locs ls 5 47 49 "java/lang/IllegalArgumentException" hls (by rw [hk]; decide) (by rw [hk]; rfl) twX2_collect_A dX2_collect_5 dX2_collect_8 dX2_collect_9 dX2_collect_12 h) _ _ ls ad f g p1 h hl hs)
abbrev rmX2_look : Room := { frames := 6, cells := 1, slots := 6, locals := 90 }
set_option maxRecDepth 100000 in
theorem iX2_look_X1 : ∀ w ∈ u_ws RX1 TX1 5, w ∈ wsX2_look := by decide +kernel
set_option maxRecDepth 100000 in
theorem iX2_look_X2 : ∀ w ∈ u_ws RX2 TX2 15, w ∈ wsX2_look := by decide +kernel
def sX2_look (n : Nat) (ad : Nat → Nat) (f : Nat → Int32) (g : Nat → Nat → Int32) (p1 : Int32) (p2 : Int32) : Option (Nat × Int32) := bR (sX2_isRoot  p1) (fun r1 => if r1 = 0 then (some (((1 : Nat), 0))) else (if p2 < 0 then (some (((1 : Nat), 0))) else (if p2 ≤ 3 then (rd (g 0) 16 p1 (fun v6 => rd (g 1) 16 p1 (fun v9 => if p2 = 0 then (if v6 = 0 then (some (((0 : Nat), 0))) else (some (((0 : Nat), 1)))) else if p2 = 1 then (some (((0 : Nat), v9))) else if p2 = 2 then (if v6 = 0 then (some (((0 : Nat), 0))) else (rd (g 5) n v9 (fun v17 => some (((0 : Nat), v17))))) else if v6 = 0 then (some (((0 : Nat), (-1)))) else (rd (g 6) n v9 (fun v21 => some (((0 : Nat), v21))))))) else (some (((1 : Nat), 0))))))
set_option maxHeartbeats 4000000 in
set_option maxRecDepth 100000 in
theorem bX2_look {p : Program} {l : Launch} {e : Env} {s : State} {m : MethodId} {args : Array Value} {below : List Frame} {meth : Method} {c : Code} {Q : State → Prop} {A : Nat → Prop} {G : va_G} {cyI cyZ : ClassId} {n x : Nat} {ad : Nat → Nat} {f : Nat → Int32} {g : Nat → Nat → Int32} (X : rh_X p s m args c cX2_look 5 RX2 wsX2_look G [(cyI, .int), (cyZ, .boolean)] rn_C A) {k' : Nat} {r' : Int32} (ret : ∀ (H : Heap) (locs : List Loc) (ls : Array Slot) (pc : Nat), k' = 0 → narrow .int (.int r') = .int r' → decode cX2_look pc = .ok (.ireturn, 1) → rh_W G A s H locs (cw cyI cyZ n x ad f g) → W p l e rmX2_look s m args below meth c H locs 0 0 Q (F0 m pc ls [.int r'])) (thr16 : ∀ (H : Heap) (locs : List Loc) (ls : Array Slot), ls.size = 5 → k' = 1 → rh_W G A s H locs (cw cyI cyZ n x ad f g) → W p l e rmX2_look s m args below meth c H locs 0 0 Q (F0 m 16 ls [])) : ∀ (H : Heap) (locs : List Loc) (ls : Array Slot) (p1 : Int32) (p2 : Int32), rh_W G A s H locs (cw cyI cyZ n x ad f g) → lv_has ls 5 [(0, .ref x), (1, .int p1), (2, .int p2)] → sX2_look n ad f g p1 p2 = some (k', r') → W p l e rmX2_look s m args below meth c H locs 0 0 Q (F0 m 0 ls []) := by
  have hx := X.1
  have hb := X.2.1
  have hown := X.2.2.2.1
  have hts := X.2.2.2.2.1
  have hK := X.2.2.2.2.2.1
  have hNN := X.2.2.2.2.2.2.1.2
  intro H locs ls p1 p2 h hl hs
  unfold sX2_look at hs
  refine lv_iload_n hx hb dX2_look_0 rfl (lv_at hl 1 rfl) ?_
  obtain ⟨r1, h2, hs⟩ := bR_some hs
  refine rh_Si X h (kX2_isRoot l G h2) (va_cwS 1 hts gX2_look_X2_isRoot rfl rfl rfl (by decide +kernel) ⟨Nat.le_of_ble_eq_true rfl, Nat.le_of_ble_eq_true rfl⟩) rfl hl.1 rfl (Nat.le_of_ble_eq_true rfl) dX2_look_1 ⟨Nat.zero_le _, Nat.zero_le _⟩ (fun H locs h => ?_)
  refine lv_if_eq (tgt := 16) hx hb dX2_look_4 (by decide) (fun c3 => ?_) (fun c3 => ?_)
  · have hs := ite_p c3 hs
    cases hs
    exact thr16 _ _ _ hl.1 rfl h
  · have hs := ite_n c3 hs
    refine lv_iload_n hx hb dX2_look_7 rfl (lv_at hl 2 rfl) ?_
    refine lv_if_lt (tgt := 16) hx hb dX2_look_8 (by decide) (fun c4 => ?_) (fun c4 => ?_)
    · have hs := ite_p c4 hs
      cases hs
      exact thr16 _ _ _ hl.1 rfl h
    · have hs := ite_n c4 hs
      refine lv_iload_n hx hb dX2_look_11 rfl (lv_at hl 2 rfl) ?_
      refine lv_iconst (v := 3) hx hb dX2_look_12 (by decide) ?_
      refine lv_icmp_le (tgt := 24) hx hb dX2_look_13 (by decide) (fun c5 => ?_) (fun c5 => ?_)
      · have hs := ite_p c5 hs
        refine lv_aload_n hx hb dX2_look_24 rfl (lv_at hl 0 rfl) ?_
        refine rh_get X h (v := .ref (ad 4)) iX2_look_X2 0 2 rfl rfl (by decide) (by decide +kernel) rfl dX2_look_25 ?_
        refine lv_iload_n hx hb dX2_look_28 rfl (lv_at hl 1 rfl) ?_
        obtain ⟨i8, v6, e7, hs⟩ := rd_some hs
        refine rh_zald X h 4 1 rfl rfl i8 e7 dX2_look_29 ?_
        refine lv_istore_n (lv' := [(3, .int v6), (0, .ref x), (1, .int p1), (2, .int p2)]) hx hb dX2_look_30 rfl hl (by decide) rfl (fun ls hl => ?_)
        refine lv_aload_n hx hb dX2_look_31 rfl (lv_at hl 1 rfl) ?_
        refine rh_get X h (v := .ref (ad 5)) iX2_look_X2 0 3 rfl rfl (by decide) (by decide +kernel) rfl dX2_look_32 ?_
        refine lv_iload_n hx hb dX2_look_35 rfl (lv_at hl 2 rfl) ?_
        obtain ⟨i11, v9, e10, hs⟩ := rd_some hs
        refine rh_iald X h 5 0 rfl rfl i11 e10 dX2_look_36 ?_
        refine lv_istore (lv' := [(4, .int v9), (3, .int v6), (0, .ref x), (1, .int p1), (2, .int p2)]) hx hb dX2_look_37 hl (by decide) rfl (fun ls hl => ?_)
        refine lv_iload_n hx hb dX2_look_39 rfl (lv_at hl 4 rfl) ?_
        by_cases c12 : p2 = 0
        · have hs := ite_p c12 hs
          refine lv_tableIn (tgt := 68) hx hb dX2_look_40 (by rw [c12]; decide) (by rw [c12]; decide) (by rw [c12]; rfl) (by decide) ?_
          refine lv_iload_n hx hb dX2_look_68 rfl (lv_at hl 1 rfl) ?_
          refine lv_if_eq (tgt := 76) hx hb dX2_look_69 (by decide) (fun c13 => ?_) (fun c13 => ?_)
          · have hs := ite_p c13 hs
            refine lv_iconst (v := 0) hx hb dX2_look_76 (by decide) ?_
            cases hs
            exact ret _ _ _ _ rfl rfl dX2_look_77 h
          · have hs := ite_n c13 hs
            refine lv_iconst (v := 1) hx hb dX2_look_72 (by decide) ?_
            refine lv_goto (tgt := 77) hx hb dX2_look_73 (by decide) ?_
            cases hs
            exact ret _ _ _ _ rfl rfl dX2_look_77 h
        have hs := ite_n c12 hs
        by_cases c14 : p2 = 1
        · have hs := ite_p c14 hs
          refine lv_tableIn (tgt := 78) hx hb dX2_look_40 (by rw [c14]; decide) (by rw [c14]; decide) (by rw [c14]; rfl) (by decide) ?_
          refine lv_iload hx hb dX2_look_78 (lv_at hl 0 rfl) ?_
          cases hs
          exact ret _ _ _ _ rfl rfl dX2_look_80 h
        have hs := ite_n c14 hs
        by_cases c15 : p2 = 2
        · have hs := ite_p c15 hs
          refine lv_tableIn (tgt := 81) hx hb dX2_look_40 (by rw [c15]; decide) (by rw [c15]; decide) (by rw [c15]; rfl) (by decide) ?_
          refine lv_iload_n hx hb dX2_look_81 rfl (lv_at hl 1 rfl) ?_
          refine lv_if_eq (tgt := 98) hx hb dX2_look_82 (by decide) (fun c16 => ?_) (fun c16 => ?_)
          · have hs := ite_p c16 hs
            refine lv_iconst (v := 0) hx hb dX2_look_98 (by decide) ?_
            cases hs
            exact ret _ _ _ _ rfl rfl dX2_look_99 h
          · have hs := ite_n c16 hs
            refine lv_aload_n hx hb dX2_look_85 rfl (lv_at hl 2 rfl) ?_
            refine rh_get X h (v := .ref (ad 2)) iX2_look_X2 0 5 rfl rfl (by decide) (by decide +kernel) rfl dX2_look_86 ?_
            refine rh_getN (host := RX2) X h (v := .ref (ad 9)) iX2_look_X1 2 2 rfl rfl (by decide) (by decide +kernel) rfl dX2_look_89 ?_
            refine lv_iload hx hb dX2_look_92 (lv_at hl 0 rfl) ?_
            obtain ⟨i19, v17, e18, hs⟩ := rd_some hs
            refine rh_iald X h 9 0 rfl rfl i19 e18 dX2_look_94 ?_
            refine lv_goto (tgt := 99) hx hb dX2_look_95 (by decide) ?_
            cases hs
            exact ret _ _ _ _ rfl rfl dX2_look_99 h
        have hs := ite_n c15 hs
        have ec12 : (p2).toInt ≠ 0 := fun e9 => c12 (Int32.toInt_inj.mp (e9.trans (by decide)))
        have ec14 : (p2).toInt ≠ 1 := fun e9 => c14 (Int32.toInt_inj.mp (e9.trans (by decide)))
        have ec15 : (p2).toInt ≠ 2 := fun e9 => c15 (Int32.toInt_inj.mp (e9.trans (by decide)))
        refine lv_tableOut (tgt := 100) hx hb dX2_look_40 (by omega) (by decide) ?_
        refine lv_iload_n hx hb dX2_look_100 rfl (lv_at hl 1 rfl) ?_
        refine lv_if_eq (tgt := 117) hx hb dX2_look_101 (by decide) (fun c20 => ?_) (fun c20 => ?_)
        · have hs := ite_p c20 hs
          refine lv_iconst (v := (-1)) hx hb dX2_look_117 (by decide) ?_
          cases hs
          exact ret _ _ _ _ rfl rfl dX2_look_118 h
        · have hs := ite_n c20 hs
          refine lv_aload_n hx hb dX2_look_104 rfl (lv_at hl 2 rfl) ?_
          refine rh_get X h (v := .ref (ad 2)) iX2_look_X2 0 5 rfl rfl (by decide) (by decide +kernel) rfl dX2_look_105 ?_
          refine rh_getN (host := RX2) X h (v := .ref (ad 10)) iX2_look_X1 2 3 rfl rfl (by decide) (by decide +kernel) rfl dX2_look_108 ?_
          refine lv_iload hx hb dX2_look_111 (lv_at hl 0 rfl) ?_
          obtain ⟨i23, v21, e22, hs⟩ := rd_some hs
          refine rh_iald X h 10 0 rfl rfl i23 e22 dX2_look_113 ?_
          refine lv_goto (tgt := 118) hx hb dX2_look_114 (by decide) ?_
          cases hs
          exact ret _ _ _ _ rfl rfl dX2_look_118 h
      · have hs := ite_n c5 hs
        cases hs
        exact thr16 _ _ _ hl.1 rfl h
theorem twX2_look_I : rt_w RX2 wsX2_look rn_C "java/lang/IndexOutOfBoundsException" 102 104 := ⟨by decide +kernel, by decide +kernel, fun w hw => List.mem_cons_of_mem _ (List.mem_append_right _ hw), rt_bI, rt_gI, by decide +kernel⟩
set_option maxHeartbeats 4000000 in
theorem kX2_look (l : Launch) (hlt : l.stackTraces = false) (G : va_G) {cyI cyZ : ClassId} {n x : Nat} {ad : Nat → Nat} {f : Nat → Int32} {g : Nat → Nat → Int32} {p1 : Int32} {p2 : Int32} {k' : Nat} {r' : Int32} (hs : sX2_look n ad f g p1 p2 = some (k', r')) : rt_Mi rt_nB l yX2_look wsX2_look rmX2_look G [(cyI, .int), (cyZ, .boolean)] rn_C (cw cyI cyZ n x ad f g) [.ref x, .int p1, .int p2] k' r' (cw cyI cyZ n x ad f g) :=
  rt_ofi hlt (by decide +kernel) rfl (Nat.le_of_ble_eq_true rfl) rfl rfl (by decide) (by decide) (fun p e s m below meth c A Q X ret thr ls hl h => bX2_look X ret (fun H locs ls hls hk h => thr H locs ls 16 102 104 "java/lang/IndexOutOfBoundsException" hls (by rw [hk]; decide) (by rw [hk]; rfl) twX2_look_I dX2_look_16 dX2_look_19 dX2_look_20 dX2_look_23 h) _ _ ls p1 p2 h hl hs)
abbrev rmX2_field : Room := { frames := 6, cells := 1, slots := 6, locals := 90 }
set_option maxRecDepth 100000 in
theorem iX2_field_X1 : ∀ w ∈ u_ws RX1 TX1 5, w ∈ wsX2_field := by decide +kernel
set_option maxRecDepth 100000 in
theorem iX2_field_X2 : ∀ w ∈ u_ws RX2 TX2 15, w ∈ wsX2_field := by decide +kernel
def sX2_field (n : Nat) (ad : Nat → Nat) (f : Nat → Int32) (g : Nat → Nat → Int32) (p1 : Int32) (p2 : Int32) (p3 : Int32) : Option (Nat × Int32) := bR (sX2_isRoot  p1) (fun r1 => if r1 = 0 then (some (((1 : Nat), 0))) else (bR (sX2_hasField n ad f g p1 p2) (fun r4 => if r4 = 0 then (some (((1 : Nat), 0))) else (if p3 < 0 then (some (((1 : Nat), 0))) else (if p3 ≤ 1 then (rd (g 1) 16 p1 (fun v9 => if p3 = 0 then (rd (g 4) n ((v9 + 1) + p2) (fun v16 => if v16 = 0 then (some (((0 : Nat), 0))) else (some (((0 : Nat), 1))))) else (rd (g 5) n ((v9 + 1) + p2) (fun v13 => some (((0 : Nat), v13)))))) else (some (((1 : Nat), 0))))))))
set_option maxHeartbeats 4000000 in
set_option maxRecDepth 100000 in
theorem bX2_field {p : Program} {l : Launch} {e : Env} {s : State} {m : MethodId} {args : Array Value} {below : List Frame} {meth : Method} {c : Code} {Q : State → Prop} {A : Nat → Prop} {G : va_G} {cyI cyZ : ClassId} {n x : Nat} {ad : Nat → Nat} {f : Nat → Int32} {g : Nat → Nat → Int32} (X : rh_X p s m args c cX2_field 5 RX2 wsX2_field G [(cyI, .int), (cyZ, .boolean)] rn_C A) {k' : Nat} {r' : Int32} (ret : ∀ (H : Heap) (locs : List Loc) (ls : Array Slot) (pc : Nat), k' = 0 → narrow .int (.int r') = .int r' → decode cX2_field pc = .ok (.ireturn, 1) → rh_W G A s H locs (cw cyI cyZ n x ad f g) → W p l e rmX2_field s m args below meth c H locs 0 0 Q (F0 m pc ls [.int r'])) (thr25 : ∀ (H : Heap) (locs : List Loc) (ls : Array Slot), ls.size = 5 → k' = 1 → rh_W G A s H locs (cw cyI cyZ n x ad f g) → W p l e rmX2_field s m args below meth c H locs 0 0 Q (F0 m 25 ls [])) : ∀ (H : Heap) (locs : List Loc) (ls : Array Slot) (p1 : Int32) (p2 : Int32) (p3 : Int32), rh_W G A s H locs (cw cyI cyZ n x ad f g) → lv_has ls 5 [(0, .ref x), (1, .int p1), (2, .int p2), (3, .int p3)] → sX2_field n ad f g p1 p2 p3 = some (k', r') → W p l e rmX2_field s m args below meth c H locs 0 0 Q (F0 m 0 ls []) := by
  have hx := X.1
  have hb := X.2.1
  have hown := X.2.2.2.1
  have hts := X.2.2.2.2.1
  have hK := X.2.2.2.2.2.1
  have hNN := X.2.2.2.2.2.2.1.2
  intro H locs ls p1 p2 p3 h hl hs
  unfold sX2_field at hs
  refine lv_iload_n hx hb dX2_field_0 rfl (lv_at hl 1 rfl) ?_
  obtain ⟨r1, h2, hs⟩ := bR_some hs
  refine rh_Si X h (kX2_isRoot l G h2) (va_cwS 1 hts gX2_field_X2_isRoot rfl rfl rfl (by decide +kernel) ⟨Nat.le_of_ble_eq_true rfl, Nat.le_of_ble_eq_true rfl⟩) rfl hl.1 rfl (Nat.le_of_ble_eq_true rfl) dX2_field_1 ⟨Nat.zero_le _, Nat.zero_le _⟩ (fun H locs h => ?_)
  refine lv_if_eq (tgt := 25) hx hb dX2_field_4 (by decide) (fun c3 => ?_) (fun c3 => ?_)
  · have hs := ite_p c3 hs
    cases hs
    exact thr25 _ _ _ hl.1 rfl h
  · have hs := ite_n c3 hs
    refine lv_aload_n hx hb dX2_field_7 rfl (lv_at hl 0 rfl) ?_
    refine lv_iload_n hx hb dX2_field_8 rfl (lv_at hl 1 rfl) ?_
    refine lv_iload_n hx hb dX2_field_9 rfl (lv_at hl 2 rfl) ?_
    obtain ⟨r4, h5, hs⟩ := bR_some hs
    refine rh_Vi X h (kX2_hasField l G (cyI := cyI) (cyZ := cyZ) (x := x) h5) (cwV 2 hts gX2_field_X2_hasField rfl rfl rfl (by decide +kernel) ⟨Nat.le_of_ble_eq_true rfl, Nat.le_of_ble_eq_true rfl⟩) (va_recv hK h.1 (ci := 2) (q0 := 0) rfl rfl) rfl hl.1 rfl (Nat.le_of_ble_eq_true rfl) dX2_field_10 ⟨Nat.zero_le _, Nat.zero_le _⟩ (fun H locs h => ?_)
    refine lv_if_eq (tgt := 25) hx hb dX2_field_13 (by decide) (fun c6 => ?_) (fun c6 => ?_)
    · have hs := ite_p c6 hs
      cases hs
      exact thr25 _ _ _ hl.1 rfl h
    · have hs := ite_n c6 hs
      refine lv_iload_n hx hb dX2_field_16 rfl (lv_at hl 3 rfl) ?_
      refine lv_if_lt (tgt := 25) hx hb dX2_field_17 (by decide) (fun c7 => ?_) (fun c7 => ?_)
      · have hs := ite_p c7 hs
        cases hs
        exact thr25 _ _ _ hl.1 rfl h
      · have hs := ite_n c7 hs
        refine lv_iload_n hx hb dX2_field_20 rfl (lv_at hl 3 rfl) ?_
        refine lv_iconst (v := 1) hx hb dX2_field_21 (by decide) ?_
        refine lv_icmp_le (tgt := 33) hx hb dX2_field_22 (by decide) (fun c8 => ?_) (fun c8 => ?_)
        · have hs := ite_p c8 hs
          refine lv_aload_n hx hb dX2_field_33 rfl (lv_at hl 0 rfl) ?_
          refine rh_get X h (v := .ref (ad 5)) iX2_field_X2 0 3 rfl rfl (by decide) (by decide +kernel) rfl dX2_field_34 ?_
          refine lv_iload_n hx hb dX2_field_37 rfl (lv_at hl 1 rfl) ?_
          obtain ⟨i11, v9, e10, hs⟩ := rd_some hs
          refine rh_iald X h 5 0 rfl rfl i11 e10 dX2_field_38 ?_
          refine lv_iconst (v := 1) hx hb dX2_field_39 (by decide) ?_
          refine lv_iadd hx hb dX2_field_40 ?_
          refine lv_iload_n hx hb dX2_field_41 rfl (lv_at hl 2 rfl) ?_
          refine lv_iadd hx hb dX2_field_42 ?_
          refine lv_istore (lv' := [(4, .int ((v9 + 1) + p2)), (0, .ref x), (1, .int p1), (2, .int p2), (3, .int p3)]) hx hb dX2_field_43 hl (by decide) rfl (fun ls hl => ?_)
          refine lv_iload_n hx hb dX2_field_45 rfl (lv_at hl 4 rfl) ?_
          refine lv_if_ne (tgt := 68) hx hb dX2_field_46 (by decide) (fun c12 => ?_) (fun c12 => ?_)
          · have hs := ite_n c12 hs
            refine lv_aload_n hx hb dX2_field_68 rfl (lv_at hl 1 rfl) ?_
            refine rh_get X h (v := .ref (ad 2)) iX2_field_X2 0 5 rfl rfl (by decide) (by decide +kernel) rfl dX2_field_69 ?_
            refine rh_getN (host := RX2) X h (v := .ref (ad 9)) iX2_field_X1 2 2 rfl rfl (by decide) (by decide +kernel) rfl dX2_field_72 ?_
            refine lv_iload hx hb dX2_field_75 (lv_at hl 0 rfl) ?_
            obtain ⟨i15, v13, e14, hs⟩ := rd_some hs
            refine rh_iald X h 9 0 rfl rfl i15 e14 dX2_field_77 ?_
            cases hs
            exact ret _ _ _ _ rfl rfl dX2_field_78 h
          · have hs := ite_p c12 hs
            refine lv_aload_n hx hb dX2_field_49 rfl (lv_at hl 1 rfl) ?_
            refine rh_get X h (v := .ref (ad 2)) iX2_field_X2 0 5 rfl rfl (by decide) (by decide +kernel) rfl dX2_field_50 ?_
            refine rh_getN (host := RX2) X h (v := .ref (ad 8)) iX2_field_X1 2 1 rfl rfl (by decide) (by decide +kernel) rfl dX2_field_53 ?_
            refine lv_iload hx hb dX2_field_56 (lv_at hl 0 rfl) ?_
            obtain ⟨i18, v16, e17, hs⟩ := rd_some hs
            refine rh_iald X h 8 0 rfl rfl i18 e17 dX2_field_58 ?_
            refine lv_if_eq (tgt := 66) hx hb dX2_field_59 (by decide) (fun c19 => ?_) (fun c19 => ?_)
            · have hs := ite_p c19 hs
              refine lv_iconst (v := 0) hx hb dX2_field_66 (by decide) ?_
              cases hs
              exact ret _ _ _ _ rfl rfl dX2_field_67 h
            · have hs := ite_n c19 hs
              refine lv_iconst (v := 1) hx hb dX2_field_62 (by decide) ?_
              refine lv_goto (tgt := 67) hx hb dX2_field_63 (by decide) ?_
              cases hs
              exact ret _ _ _ _ rfl rfl dX2_field_67 h
        · have hs := ite_n c8 hs
          cases hs
          exact thr25 _ _ _ hl.1 rfl h
theorem twX2_field_I : rt_w RX2 wsX2_field rn_C "java/lang/IndexOutOfBoundsException" 102 104 := ⟨by decide +kernel, by decide +kernel, fun w hw => List.mem_cons_of_mem _ (List.mem_append_right _ hw), rt_bI, rt_gI, by decide +kernel⟩
set_option maxHeartbeats 4000000 in
theorem kX2_field (l : Launch) (hlt : l.stackTraces = false) (G : va_G) {cyI cyZ : ClassId} {n x : Nat} {ad : Nat → Nat} {f : Nat → Int32} {g : Nat → Nat → Int32} {p1 : Int32} {p2 : Int32} {p3 : Int32} {k' : Nat} {r' : Int32} (hs : sX2_field n ad f g p1 p2 p3 = some (k', r')) : rt_Mi rt_nB l yX2_field wsX2_field rmX2_field G [(cyI, .int), (cyZ, .boolean)] rn_C (cw cyI cyZ n x ad f g) [.ref x, .int p1, .int p2, .int p3] k' r' (cw cyI cyZ n x ad f g) :=
  rt_ofi hlt (by decide +kernel) rfl (Nat.le_of_ble_eq_true rfl) rfl rfl (by decide) (by decide) (fun p e s m below meth c A Q X ret thr ls hl h => bX2_field X ret (fun H locs ls hls hk h => thr H locs ls 25 102 104 "java/lang/IndexOutOfBoundsException" hls (by rw [hk]; decide) (by rw [hk]; rfl) twX2_field_I dX2_field_25 dX2_field_28 dX2_field_29 dX2_field_32 h) _ _ ls p1 p2 p3 h hl hs)
abbrev rmX2_cell : Room := { frames := 6, cells := 1, slots := 6, locals := 90 }
set_option maxRecDepth 100000 in
theorem iX2_cell_X1 : ∀ w ∈ u_ws RX1 TX1 5, w ∈ wsX2_cell := by decide +kernel
set_option maxRecDepth 100000 in
theorem iX2_cell_X2 : ∀ w ∈ u_ws RX2 TX2 15, w ∈ wsX2_cell := by decide +kernel
def sX2_cell (n : Nat) (ad : Nat → Nat) (f : Nat → Int32) (g : Nat → Nat → Int32) (p1 : Int32) (p2 : Int32) (p3 : Int32) : Option (Nat × Int32) := if p1 < 0 then (some (((1 : Nat), 0))) else (if 1 < p1 then (some (((1 : Nat), 0))) else (if p3 < 0 then (some (((1 : Nat), 0))) else (if p3 ≤ 2 then (if p1 = (f 12) then (if p2 < 0 then (some (((1 : Nat), 0))) else (if p2 < (f 13) then (if p3 = 0 then (rd (g 4) n p2 (fun v26 => some (((0 : Nat), v26)))) else if p3 = 1 then (rd (g 5) n p2 (fun v30 => some (((0 : Nat), v30)))) else rd (g 4) n p2 (fun v33 => if v33 = 3 then (rd (g 6) n p2 (fun v37 => some (((0 : Nat), v37)))) else (some (((0 : Nat), (-1)))))) else (some (((1 : Nat), 0))))) else (if p2 < 0 then (some (((1 : Nat), 0))) else (if p2 < (f 15) then (if p3 = 0 then (rd (g 7) n p2 (fun v9 => some (((0 : Nat), v9)))) else if p3 = 1 then (rd (g 8) n p2 (fun v13 => some (((0 : Nat), v13)))) else rd (g 7) n p2 (fun v16 => if v16 = 3 then (rd (g 9) n p2 (fun v20 => some (((0 : Nat), v20)))) else (some (((0 : Nat), (-1)))))) else (some (((1 : Nat), 0)))))) else (some (((1 : Nat), 0))))))
set_option maxHeartbeats 4000000 in
set_option maxRecDepth 100000 in
theorem bX2_cell {p : Program} {l : Launch} {e : Env} {s : State} {m : MethodId} {args : Array Value} {below : List Frame} {meth : Method} {c : Code} {Q : State → Prop} {A : Nat → Prop} {G : va_G} {cyI cyZ : ClassId} {n x : Nat} {ad : Nat → Nat} {f : Nat → Int32} {g : Nat → Nat → Int32} (X : rh_X p s m args c cX2_cell 5 RX2 wsX2_cell G [(cyI, .int), (cyZ, .boolean)] rn_C A) {k' : Nat} {r' : Int32} (ret : ∀ (H : Heap) (locs : List Loc) (ls : Array Slot) (pc : Nat), k' = 0 → narrow .int (.int r') = .int r' → decode cX2_cell pc = .ok (.ireturn, 1) → rh_W G A s H locs (cw cyI cyZ n x ad f g) → W p l e rmX2_cell s m args below meth c H locs 0 0 Q (F0 m pc ls [.int r'])) (thr18 : ∀ (H : Heap) (locs : List Loc) (ls : Array Slot), ls.size = 5 → k' = 1 → rh_W G A s H locs (cw cyI cyZ n x ad f g) → W p l e rmX2_cell s m args below meth c H locs 0 0 Q (F0 m 18 ls [])) (thr63 : ∀ (H : Heap) (locs : List Loc) (ls : Array Slot), ls.size = 5 → k' = 1 → rh_W G A s H locs (cw cyI cyZ n x ad f g) → W p l e rmX2_cell s m args below meth c H locs 0 0 Q (F0 m 63 ls [])) : ∀ (H : Heap) (locs : List Loc) (ls : Array Slot) (p1 : Int32) (p2 : Int32) (p3 : Int32), rh_W G A s H locs (cw cyI cyZ n x ad f g) → lv_has ls 5 [(0, .ref x), (1, .int p1), (2, .int p2), (3, .int p3)] → sX2_cell n ad f g p1 p2 p3 = some (k', r') → W p l e rmX2_cell s m args below meth c H locs 0 0 Q (F0 m 0 ls []) := by
  have hx := X.1
  have hb := X.2.1
  have hown := X.2.2.2.1
  have hts := X.2.2.2.2.1
  have hK := X.2.2.2.2.2.1
  have hNN := X.2.2.2.2.2.2.1.2
  intro H locs ls p1 p2 p3 h hl hs
  unfold sX2_cell at hs
  refine lv_iload_n hx hb dX2_cell_0 rfl (lv_at hl 1 rfl) ?_
  refine lv_if_lt (tgt := 18) hx hb dX2_cell_1 (by decide) (fun c1 => ?_) (fun c1 => ?_)
  · have hs := ite_p c1 hs
    cases hs
    exact thr18 _ _ _ hl.1 rfl h
  · have hs := ite_n c1 hs
    refine lv_iload_n hx hb dX2_cell_4 rfl (lv_at hl 1 rfl) ?_
    refine lv_iconst (v := 1) hx hb dX2_cell_5 (by decide) ?_
    refine lv_icmp_gt (tgt := 18) hx hb dX2_cell_6 (by decide) (fun c2 => ?_) (fun c2 => ?_)
    · have hs := ite_p c2 hs
      cases hs
      exact thr18 _ _ _ hl.1 rfl h
    · have hs := ite_n c2 hs
      refine lv_iload_n hx hb dX2_cell_9 rfl (lv_at hl 3 rfl) ?_
      refine lv_if_lt (tgt := 18) hx hb dX2_cell_10 (by decide) (fun c3 => ?_) (fun c3 => ?_)
      · have hs := ite_p c3 hs
        cases hs
        exact thr18 _ _ _ hl.1 rfl h
      · have hs := ite_n c3 hs
        refine lv_iload_n hx hb dX2_cell_13 rfl (lv_at hl 3 rfl) ?_
        refine lv_iconst (v := 2) hx hb dX2_cell_14 (by decide) ?_
        refine lv_icmp_le (tgt := 26) hx hb dX2_cell_15 (by decide) (fun c4 => ?_) (fun c4 => ?_)
        · have hs := ite_p c4 hs
          refine lv_iload_n hx hb dX2_cell_26 rfl (lv_at hl 1 rfl) ?_
          refine lv_aload_n hx hb dX2_cell_27 rfl (lv_at hl 0 rfl) ?_
          refine rh_get X h (v := .ref (ad 2)) iX2_cell_X2 0 5 rfl rfl (by decide) (by decide +kernel) rfl dX2_cell_28 ?_
          refine rh_getN (host := RX2) X h (v := .int (f 12)) iX2_cell_X1 2 0 rfl rfl (by decide) (by decide +kernel) rfl dX2_cell_31 ?_
          refine lv_icmp_ne (tgt := 44) hx hb dX2_cell_34 (by decide) (fun c5 => ?_) (fun c5 => ?_)
          · have hs := ite_n c5 hs
            refine lv_aload_n hx hb dX2_cell_44 rfl (lv_at hl 0 rfl) ?_
            refine rh_get X h (v := .ref (ad 3)) iX2_cell_X2 0 6 rfl rfl (by decide) (by decide +kernel) rfl dX2_cell_45 ?_
            refine lv_astore (lv' := [(4, .ref (ad 3)), (0, .ref x), (1, .int p1), (2, .int p2), (3, .int p3)]) hx hb dX2_cell_48 hl (by decide) rfl (fun ls hl => ?_)
            refine lv_iload_n hx hb dX2_cell_50 rfl (lv_at hl 3 rfl) ?_
            refine lv_if_lt (tgt := 63) hx hb dX2_cell_51 (by decide) (fun c6 => ?_) (fun c6 => ?_)
            · have hs := ite_p c6 hs
              cases hs
              exact thr63 _ _ _ hl.1 rfl h
            · have hs := ite_n c6 hs
              refine lv_iload_n hx hb dX2_cell_54 rfl (lv_at hl 3 rfl) ?_
              refine lv_aload hx hb dX2_cell_55 (lv_at hl 0 rfl) ?_
              refine rh_getN (host := RX2) X h (v := .int (f 15)) iX2_cell_X1 3 4 rfl rfl (by decide) (by decide +kernel) rfl dX2_cell_57 ?_
              refine lv_icmp_lt (tgt := 71) hx hb dX2_cell_60 (by decide) (fun c7 => ?_) (fun c7 => ?_)
              · have hs := ite_p c7 hs
                refine lv_iload_n hx hb dX2_cell_71 rfl (lv_at hl 4 rfl) ?_
                by_cases c8 : p3 = 0
                · have hs := ite_p c8 hs
                  refine lv_lookup (off := 28) (tgt := 100) hx hb dX2_cell_72 (by decide) (by rw [c8] <;> rfl) (by decide) ?_
                  refine lv_aload hx hb dX2_cell_100 (lv_at hl 0 rfl) ?_
                  refine rh_getN (host := RX2) X h (v := .ref (ad 11)) iX2_cell_X1 3 1 rfl rfl (by decide) (by decide +kernel) rfl dX2_cell_102 ?_
                  refine lv_iload_n hx hb dX2_cell_105 rfl (lv_at hl 3 rfl) ?_
                  obtain ⟨i11, v9, e10, hs⟩ := rd_some hs
                  refine rh_iald X h 11 0 rfl rfl i11 e10 dX2_cell_106 ?_
                  cases hs
                  exact ret _ _ _ _ rfl rfl dX2_cell_107 h
                have hs := ite_n c8 hs
                by_cases c12 : p3 = 1
                · have hs := ite_p c12 hs
                  refine lv_lookup (off := 36) (tgt := 108) hx hb dX2_cell_72 (by decide) (by rw [c12] <;> rfl) (by decide) ?_
                  refine lv_aload hx hb dX2_cell_108 (lv_at hl 0 rfl) ?_
                  refine rh_getN (host := RX2) X h (v := .ref (ad 12)) iX2_cell_X1 3 2 rfl rfl (by decide) (by decide +kernel) rfl dX2_cell_110 ?_
                  refine lv_iload_n hx hb dX2_cell_113 rfl (lv_at hl 3 rfl) ?_
                  obtain ⟨i15, v13, e14, hs⟩ := rd_some hs
                  refine rh_iald X h 12 0 rfl rfl i15 e14 dX2_cell_114 ?_
                  cases hs
                  exact ret _ _ _ _ rfl rfl dX2_cell_115 h
                have hs := ite_n c12 hs
                refine lv_lookup (off := 44) (tgt := 116) hx hb dX2_cell_72 (by decide) ((lv_osw (k := 0) c8 (by decide)).trans ((lv_osw (k := 1) c12 (by decide)).trans rfl)) (by decide) ?_
                refine lv_aload hx hb dX2_cell_116 (lv_at hl 0 rfl) ?_
                refine rh_getN (host := RX2) X h (v := .ref (ad 11)) iX2_cell_X1 3 1 rfl rfl (by decide) (by decide +kernel) rfl dX2_cell_118 ?_
                refine lv_iload_n hx hb dX2_cell_121 rfl (lv_at hl 3 rfl) ?_
                obtain ⟨i18, v16, e17, hs⟩ := rd_some hs
                refine rh_iald X h 11 0 rfl rfl i18 e17 dX2_cell_122 ?_
                refine lv_iconst (v := 3) hx hb dX2_cell_123 (by decide) ?_
                refine lv_icmp_ne (tgt := 137) hx hb dX2_cell_124 (by decide) (fun c19 => ?_) (fun c19 => ?_)
                · have hs := ite_n c19 hs
                  refine lv_iconst (v := (-1)) hx hb dX2_cell_137 (by decide) ?_
                  cases hs
                  exact ret _ _ _ _ rfl rfl dX2_cell_138 h
                · have hs := ite_p c19 hs
                  refine lv_aload hx hb dX2_cell_127 (lv_at hl 0 rfl) ?_
                  refine rh_getN (host := RX2) X h (v := .ref (ad 13)) iX2_cell_X1 3 3 rfl rfl (by decide) (by decide +kernel) rfl dX2_cell_129 ?_
                  refine lv_iload_n hx hb dX2_cell_132 rfl (lv_at hl 3 rfl) ?_
                  obtain ⟨i22, v20, e21, hs⟩ := rd_some hs
                  refine rh_iald X h 13 0 rfl rfl i22 e21 dX2_cell_133 ?_
                  refine lv_goto (tgt := 138) hx hb dX2_cell_134 (by decide) ?_
                  cases hs
                  exact ret _ _ _ _ rfl rfl dX2_cell_138 h
              · have hs := ite_n c7 hs
                cases hs
                exact thr63 _ _ _ hl.1 rfl h
          · have hs := ite_p c5 hs
            refine lv_aload_n hx hb dX2_cell_37 rfl (lv_at hl 0 rfl) ?_
            refine rh_get X h (v := .ref (ad 2)) iX2_cell_X2 0 5 rfl rfl (by decide) (by decide +kernel) rfl dX2_cell_38 ?_
            refine lv_goto (tgt := 48) hx hb dX2_cell_41 (by decide) ?_
            refine lv_astore (lv' := [(4, .ref (ad 2)), (0, .ref x), (1, .int p1), (2, .int p2), (3, .int p3)]) hx hb dX2_cell_48 hl (by decide) rfl (fun ls hl => ?_)
            refine lv_iload_n hx hb dX2_cell_50 rfl (lv_at hl 3 rfl) ?_
            refine lv_if_lt (tgt := 63) hx hb dX2_cell_51 (by decide) (fun c23 => ?_) (fun c23 => ?_)
            · have hs := ite_p c23 hs
              cases hs
              exact thr63 _ _ _ hl.1 rfl h
            · have hs := ite_n c23 hs
              refine lv_iload_n hx hb dX2_cell_54 rfl (lv_at hl 3 rfl) ?_
              refine lv_aload hx hb dX2_cell_55 (lv_at hl 0 rfl) ?_
              refine rh_getN (host := RX2) X h (v := .int (f 13)) iX2_cell_X1 2 4 rfl rfl (by decide) (by decide +kernel) rfl dX2_cell_57 ?_
              refine lv_icmp_lt (tgt := 71) hx hb dX2_cell_60 (by decide) (fun c24 => ?_) (fun c24 => ?_)
              · have hs := ite_p c24 hs
                refine lv_iload_n hx hb dX2_cell_71 rfl (lv_at hl 4 rfl) ?_
                by_cases c25 : p3 = 0
                · have hs := ite_p c25 hs
                  refine lv_lookup (off := 28) (tgt := 100) hx hb dX2_cell_72 (by decide) (by rw [c25] <;> rfl) (by decide) ?_
                  refine lv_aload hx hb dX2_cell_100 (lv_at hl 0 rfl) ?_
                  refine rh_getN (host := RX2) X h (v := .ref (ad 8)) iX2_cell_X1 2 1 rfl rfl (by decide) (by decide +kernel) rfl dX2_cell_102 ?_
                  refine lv_iload_n hx hb dX2_cell_105 rfl (lv_at hl 3 rfl) ?_
                  obtain ⟨i28, v26, e27, hs⟩ := rd_some hs
                  refine rh_iald X h 8 0 rfl rfl i28 e27 dX2_cell_106 ?_
                  cases hs
                  exact ret _ _ _ _ rfl rfl dX2_cell_107 h
                have hs := ite_n c25 hs
                by_cases c29 : p3 = 1
                · have hs := ite_p c29 hs
                  refine lv_lookup (off := 36) (tgt := 108) hx hb dX2_cell_72 (by decide) (by rw [c29] <;> rfl) (by decide) ?_
                  refine lv_aload hx hb dX2_cell_108 (lv_at hl 0 rfl) ?_
                  refine rh_getN (host := RX2) X h (v := .ref (ad 9)) iX2_cell_X1 2 2 rfl rfl (by decide) (by decide +kernel) rfl dX2_cell_110 ?_
                  refine lv_iload_n hx hb dX2_cell_113 rfl (lv_at hl 3 rfl) ?_
                  obtain ⟨i32, v30, e31, hs⟩ := rd_some hs
                  refine rh_iald X h 9 0 rfl rfl i32 e31 dX2_cell_114 ?_
                  cases hs
                  exact ret _ _ _ _ rfl rfl dX2_cell_115 h
                have hs := ite_n c29 hs
                refine lv_lookup (off := 44) (tgt := 116) hx hb dX2_cell_72 (by decide) ((lv_osw (k := 0) c25 (by decide)).trans ((lv_osw (k := 1) c29 (by decide)).trans rfl)) (by decide) ?_
                refine lv_aload hx hb dX2_cell_116 (lv_at hl 0 rfl) ?_
                refine rh_getN (host := RX2) X h (v := .ref (ad 8)) iX2_cell_X1 2 1 rfl rfl (by decide) (by decide +kernel) rfl dX2_cell_118 ?_
                refine lv_iload_n hx hb dX2_cell_121 rfl (lv_at hl 3 rfl) ?_
                obtain ⟨i35, v33, e34, hs⟩ := rd_some hs
                refine rh_iald X h 8 0 rfl rfl i35 e34 dX2_cell_122 ?_
                refine lv_iconst (v := 3) hx hb dX2_cell_123 (by decide) ?_
                refine lv_icmp_ne (tgt := 137) hx hb dX2_cell_124 (by decide) (fun c36 => ?_) (fun c36 => ?_)
                · have hs := ite_n c36 hs
                  refine lv_iconst (v := (-1)) hx hb dX2_cell_137 (by decide) ?_
                  cases hs
                  exact ret _ _ _ _ rfl rfl dX2_cell_138 h
                · have hs := ite_p c36 hs
                  refine lv_aload hx hb dX2_cell_127 (lv_at hl 0 rfl) ?_
                  refine rh_getN (host := RX2) X h (v := .ref (ad 10)) iX2_cell_X1 2 3 rfl rfl (by decide) (by decide +kernel) rfl dX2_cell_129 ?_
                  refine lv_iload_n hx hb dX2_cell_132 rfl (lv_at hl 3 rfl) ?_
                  obtain ⟨i39, v37, e38, hs⟩ := rd_some hs
                  refine rh_iald X h 10 0 rfl rfl i39 e38 dX2_cell_133 ?_
                  refine lv_goto (tgt := 138) hx hb dX2_cell_134 (by decide) ?_
                  cases hs
                  exact ret _ _ _ _ rfl rfl dX2_cell_138 h
              · have hs := ite_n c24 hs
                cases hs
                exact thr63 _ _ _ hl.1 rfl h
        · have hs := ite_n c4 hs
          cases hs
          exact thr18 _ _ _ hl.1 rfl h
theorem twX2_cell_I : rt_w RX2 wsX2_cell rn_C "java/lang/IndexOutOfBoundsException" 102 104 := ⟨by decide +kernel, by decide +kernel, fun w hw => List.mem_cons_of_mem _ (List.mem_append_right _ hw), rt_bI, rt_gI, by decide +kernel⟩
set_option maxHeartbeats 4000000 in
theorem kX2_cell (l : Launch) (hlt : l.stackTraces = false) (G : va_G) {cyI cyZ : ClassId} {n x : Nat} {ad : Nat → Nat} {f : Nat → Int32} {g : Nat → Nat → Int32} {p1 : Int32} {p2 : Int32} {p3 : Int32} {k' : Nat} {r' : Int32} (hs : sX2_cell n ad f g p1 p2 p3 = some (k', r')) : rt_Mi rt_nB l yX2_cell wsX2_cell rmX2_cell G [(cyI, .int), (cyZ, .boolean)] rn_C (cw cyI cyZ n x ad f g) [.ref x, .int p1, .int p2, .int p3] k' r' (cw cyI cyZ n x ad f g) :=
  rt_ofi hlt (by decide +kernel) rfl (Nat.le_of_ble_eq_true rfl) rfl rfl (by decide) (by decide) (fun p e s m below meth c A Q X ret thr ls hl h => bX2_cell X ret (fun H locs ls hls hk h => thr H locs ls 18 102 104 "java/lang/IndexOutOfBoundsException" hls (by rw [hk]; decide) (by rw [hk]; rfl) twX2_cell_I dX2_cell_18 dX2_cell_21 dX2_cell_22 dX2_cell_25 h) (fun H locs ls hls hk h => thr H locs ls 63 102 104 "java/lang/IndexOutOfBoundsException" hls (by rw [hk]; decide) (by rw [hk]; rfl) twX2_cell_I dX2_cell_63 dX2_cell_66 dX2_cell_67 dX2_cell_70 h) _ _ ls p1 p2 p3 h hl hs)
abbrev rmX2_entry : Room := { frames := 6, cells := 1, slots := 6, locals := 90 }
set_option maxRecDepth 100000 in
theorem iX2_entry_X0 : ∀ w ∈ u_ws RX0 TX0 4, w ∈ wsX2_entry := by decide +kernel
set_option maxRecDepth 100000 in
theorem iX2_entry_X2 : ∀ w ∈ u_ws RX2 TX2 15, w ∈ wsX2_entry := by decide +kernel
def sX2_entry (n : Nat) (ad : Nat → Nat) (f : Nat → Int32) (g : Nat → Nat → Int32) (p1 : Int32) (p2 : Int32) : Option (Nat × Int32) := if p1 < 0 then (some (((1 : Nat), 0))) else (if (f 10) ≤ p1 then (some (((1 : Nat), 0))) else (if p2 < 0 then (some (((1 : Nat), 0))) else (if p2 ≤ 1 then (if p2 = 0 then (rd (g 2) 512 p1 (fun v9 => some (((0 : Nat), v9)))) else (rd (g 3) 512 p1 (fun v6 => some (((0 : Nat), v6))))) else (some (((1 : Nat), 0))))))
set_option maxHeartbeats 4000000 in
set_option maxRecDepth 100000 in
theorem bX2_entry {p : Program} {l : Launch} {e : Env} {s : State} {m : MethodId} {args : Array Value} {below : List Frame} {meth : Method} {c : Code} {Q : State → Prop} {A : Nat → Prop} {G : va_G} {cyI cyZ : ClassId} {n x : Nat} {ad : Nat → Nat} {f : Nat → Int32} {g : Nat → Nat → Int32} (X : rh_X p s m args c cX2_entry 3 RX2 wsX2_entry G [(cyI, .int), (cyZ, .boolean)] rn_C A) {k' : Nat} {r' : Int32} (ret : ∀ (H : Heap) (locs : List Loc) (ls : Array Slot) (pc : Nat), k' = 0 → narrow .int (.int r') = .int r' → decode cX2_entry pc = .ok (.ireturn, 1) → rh_W G A s H locs (cw cyI cyZ n x ad f g) → W p l e rmX2_entry s m args below meth c H locs 0 0 Q (F0 m pc ls [.int r'])) (thr24 : ∀ (H : Heap) (locs : List Loc) (ls : Array Slot), ls.size = 3 → k' = 1 → rh_W G A s H locs (cw cyI cyZ n x ad f g) → W p l e rmX2_entry s m args below meth c H locs 0 0 Q (F0 m 24 ls [])) : ∀ (H : Heap) (locs : List Loc) (ls : Array Slot) (p1 : Int32) (p2 : Int32), rh_W G A s H locs (cw cyI cyZ n x ad f g) → lv_has ls 3 [(0, .ref x), (1, .int p1), (2, .int p2)] → sX2_entry n ad f g p1 p2 = some (k', r') → W p l e rmX2_entry s m args below meth c H locs 0 0 Q (F0 m 0 ls []) := by
  have hx := X.1
  have hb := X.2.1
  have hown := X.2.2.2.1
  have hts := X.2.2.2.2.1
  have hK := X.2.2.2.2.2.1
  have hNN := X.2.2.2.2.2.2.1.2
  intro H locs ls p1 p2 h hl hs
  unfold sX2_entry at hs
  refine lv_iload_n hx hb dX2_entry_0 rfl (lv_at hl 1 rfl) ?_
  refine lv_if_lt (tgt := 24) hx hb dX2_entry_1 (by decide) (fun c1 => ?_) (fun c1 => ?_)
  · have hs := ite_p c1 hs
    cases hs
    exact thr24 _ _ _ hl.1 rfl h
  · have hs := ite_n c1 hs
    refine lv_iload_n hx hb dX2_entry_4 rfl (lv_at hl 1 rfl) ?_
    refine lv_aload_n hx hb dX2_entry_5 rfl (lv_at hl 0 rfl) ?_
    refine rh_get X h (v := .ref (ad 1)) iX2_entry_X2 0 4 rfl rfl (by decide) (by decide +kernel) rfl dX2_entry_6 ?_
    refine rh_getN (host := RX2) X h (v := .int (f 10)) iX2_entry_X0 1 2 rfl rfl (by decide) (by decide +kernel) rfl dX2_entry_9 ?_
    refine lv_icmp_ge (tgt := 24) hx hb dX2_entry_12 (by decide) (fun c2 => ?_) (fun c2 => ?_)
    · have hs := ite_p c2 hs
      cases hs
      exact thr24 _ _ _ hl.1 rfl h
    · have hs := ite_n c2 hs
      refine lv_iload_n hx hb dX2_entry_15 rfl (lv_at hl 2 rfl) ?_
      refine lv_if_lt (tgt := 24) hx hb dX2_entry_16 (by decide) (fun c3 => ?_) (fun c3 => ?_)
      · have hs := ite_p c3 hs
        cases hs
        exact thr24 _ _ _ hl.1 rfl h
      · have hs := ite_n c3 hs
        refine lv_iload_n hx hb dX2_entry_19 rfl (lv_at hl 2 rfl) ?_
        refine lv_iconst (v := 1) hx hb dX2_entry_20 (by decide) ?_
        refine lv_icmp_le (tgt := 32) hx hb dX2_entry_21 (by decide) (fun c4 => ?_) (fun c4 => ?_)
        · have hs := ite_p c4 hs
          refine lv_iload_n hx hb dX2_entry_32 rfl (lv_at hl 2 rfl) ?_
          refine lv_if_ne (tgt := 48) hx hb dX2_entry_33 (by decide) (fun c5 => ?_) (fun c5 => ?_)
          · have hs := ite_n c5 hs
            refine lv_aload_n hx hb dX2_entry_48 rfl (lv_at hl 0 rfl) ?_
            refine rh_get X h (v := .ref (ad 1)) iX2_entry_X2 0 4 rfl rfl (by decide) (by decide +kernel) rfl dX2_entry_49 ?_
            refine rh_getN (host := RX2) X h (v := .ref (ad 7)) iX2_entry_X0 1 1 rfl rfl (by decide) (by decide +kernel) rfl dX2_entry_52 ?_
            refine lv_iload_n hx hb dX2_entry_55 rfl (lv_at hl 1 rfl) ?_
            obtain ⟨i8, v6, e7, hs⟩ := rd_some hs
            refine rh_iald X h 7 0 rfl rfl i8 e7 dX2_entry_56 ?_
            cases hs
            exact ret _ _ _ _ rfl rfl dX2_entry_57 h
          · have hs := ite_p c5 hs
            refine lv_aload_n hx hb dX2_entry_36 rfl (lv_at hl 0 rfl) ?_
            refine rh_get X h (v := .ref (ad 1)) iX2_entry_X2 0 4 rfl rfl (by decide) (by decide +kernel) rfl dX2_entry_37 ?_
            refine rh_getN (host := RX2) X h (v := .ref (ad 6)) iX2_entry_X0 1 0 rfl rfl (by decide) (by decide +kernel) rfl dX2_entry_40 ?_
            refine lv_iload_n hx hb dX2_entry_43 rfl (lv_at hl 1 rfl) ?_
            obtain ⟨i11, v9, e10, hs⟩ := rd_some hs
            refine rh_iald X h 6 0 rfl rfl i11 e10 dX2_entry_44 ?_
            refine lv_goto (tgt := 57) hx hb dX2_entry_45 (by decide) ?_
            cases hs
            exact ret _ _ _ _ rfl rfl dX2_entry_57 h
        · have hs := ite_n c4 hs
          cases hs
          exact thr24 _ _ _ hl.1 rfl h
theorem twX2_entry_I : rt_w RX2 wsX2_entry rn_C "java/lang/IndexOutOfBoundsException" 102 104 := ⟨by decide +kernel, by decide +kernel, fun w hw => List.mem_cons_of_mem _ (List.mem_append_right _ hw), rt_bI, rt_gI, by decide +kernel⟩
set_option maxHeartbeats 4000000 in
theorem kX2_entry (l : Launch) (hlt : l.stackTraces = false) (G : va_G) {cyI cyZ : ClassId} {n x : Nat} {ad : Nat → Nat} {f : Nat → Int32} {g : Nat → Nat → Int32} {p1 : Int32} {p2 : Int32} {k' : Nat} {r' : Int32} (hs : sX2_entry n ad f g p1 p2 = some (k', r')) : rt_Mi rt_nB l yX2_entry wsX2_entry rmX2_entry G [(cyI, .int), (cyZ, .boolean)] rn_C (cw cyI cyZ n x ad f g) [.ref x, .int p1, .int p2] k' r' (cw cyI cyZ n x ad f g) :=
  rt_ofi hlt (by decide +kernel) rfl (Nat.le_of_ble_eq_true rfl) rfl rfl (by decide) (by decide) (fun p e s m below meth c A Q X ret thr ls hl h => bX2_entry X ret (fun H locs ls hls hk h => thr H locs ls 24 102 104 "java/lang/IndexOutOfBoundsException" hls (by rw [hk]; decide) (by rw [hk]; rfl) twX2_entry_I dX2_entry_24 dX2_entry_27 dX2_entry_28 dX2_entry_31 h) _ _ ls p1 p2 h hl hs)
