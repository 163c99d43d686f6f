theorem rq_cA : Cond.castable "java/lang/IllegalArgumentException" "java/lang/IllegalArgumentException" ∈ rn_C := by decide +kernel
theorem rq_cS : Cond.castable "java/lang/IllegalStateException" "java/lang/IllegalStateException" ∈ rn_C := by decide +kernel
theorem rq_cI : Cond.castable "java/lang/IndexOutOfBoundsException" "java/lang/IndexOutOfBoundsException" ∈ rn_C := by decide +kernel
abbrev rmL_alloc : Room := { frames := 7, cells := 1, slots := 6, locals := 157 }
set_option maxHeartbeats 4000000 in
set_option maxRecDepth 100000 in
theorem qL_alloc (l : Launch) (hlt : l.stackTraces = false) (G : va_G) {cyI cyZ cyJ : ClassId} {n x o : Nat} {ad : Nat → Nat} {f : Nat → Int32} {g : Nat → Nat → Int32} {fo : Nat → Int64} {p1 : Int32} {p2 : Int32} {k' : Nat} {r' : Int32} {ad' : Nat → Nat} {f' : Nat → Int32} {g' : Nat → Nat → Int32} (hs : sX2_alloc n ad f g p1 p2 = some (k', r', ad', f', g')) : rq_M l yL_alloc wsL_alloc rmL_alloc G [(cyI, .int), (cyZ, .boolean), (cyJ, .long)] rn_C (cw cyI cyZ n x ad f g ++ rq_out cyJ o fo) [.ref x, .int p1, .int p2, .ref o] (rq_k1 k') (cw cyI cyZ n x ad' f' g' ++ rq_out cyJ o (rq_o k' fo (if r' = 0 then 0 else 1))) := by
  refine rq_of (by decide +kernel) rfl (Nat.le_of_ble_eq_true rfl) ?_
  intro p e s m below meth c A Q X hU hC htab ret ls hl h
  have hx := X.1
  have hb := X.2.1
  have hown := X.2.2.2.1
  have hts := X.2.2.2.2.1
  have hK := X.2.2.2.2.2.1
  have hNN := X.2.2.2.2.2.2.1.2
  refine lv_aload_n hx hb dL_alloc_0 rfl (lv_at hl 3 rfl) ?_
  refine lv_iconst (v := 0) hx hb dL_alloc_1 (by decide) ?_
  refine lv_aload_n hx hb dL_alloc_2 rfl (lv_at hl 0 rfl) ?_
  refine lv_iload_n hx hb dL_alloc_3 rfl (lv_at hl 1 rfl) ?_
  refine lv_iload_n hx hb dL_alloc_4 rfl (lv_at hl 2 rfl) ?_
  have h : rh_W G A s s.heap [] ([] ++ (cw cyI cyZ n x ad f g ++ rq_out cyJ o fo)) := h
  refine rj_TVi ⟨hx, hb, X.2.2.1, hown, hts⟩ X.2.2.2.2.2.2.2 (hK.sub (tys' := [(cyI, .int), (cyZ, .boolean)]) [0, 1] rfl) X.2.2.2.2.2.2.1 hU h (kX2_alloc l hlt G (cyI := cyI) (cyZ := cyZ) (x := x) hs) (cwV 2 hts gL_alloc_X2_alloc rfl rfl rfl (by decide +kernel) ⟨Nat.le_of_ble_eq_true rfl, Nat.le_of_ble_eq_true rfl⟩) (va_recv hK h.1 (ci := 2) (q0 := 0) rfl rfl) rfl hl.1 (rest := [.int 0, .ref o]) rfl (Nat.le_of_ble_eq_true rfl) dL_alloc_5 ⟨Nat.le_of_ble_eq_true rfl, Nat.le_of_ble_eq_true rfl⟩ (fun hk H locs ce q9 h hc1 hc2 hc3 => ?_) (fun hk H locs h => ?_)
  · refine vx_catch hown [] ⟨0, 17, 20, 13⟩ [] (htab.trans rfl) (fun z hz => absurd hz List.not_mem_nil) (by decide) (by decide) (hts (.classLink RL 13 "java/lang/IllegalArgumentException") (by decide +kernel)) (va_Nw.use rfl (hNN (.castable "java/lang/IllegalArgumentException" "java/lang/IllegalArgumentException") rq_cA)) hc1 hc2 hc3 ?_
    refine lv_astore (lv' := [(4, .ref q9), (0, .ref x), (1, .int p1), (2, .int p2), (3, .ref o)]) hx hb dL_alloc_20 hl (by decide) rfl (fun ls hl => ?_)
    refine lv_iconst (v := 1) hx hb dL_alloc_22 (by decide) ?_
    refine rh_top (z := rq_k1 k') (by unfold rq_k1; rw [if_neg hk]) ?_
    have h : rh_W G A s H locs (cw cyI cyZ n x ad' f' g' ++ rq_out cyJ o (rq_o k' fo (if r' = 0 then 0 else 1))) := by unfold rq_o; rw [if_neg hk]; exact h
    exact ret _ _ _ _ dL_alloc_23 h
  · refine lv_if_eq (tgt := 15) hx hb dL_alloc_8 (by decide) (fun c0 => ?_) (fun c0 => ?_)
    · refine lv_lconst (v := 0) hx hb dL_alloc_15 (by decide) ?_
      refine va_last hx hb hK h.1 h.2.1 h.2.2 14 2 rfl rfl (vp_in_nI (n := 0) (N := 1) (by decide) (by decide)) dL_alloc_16 (fun H locs hP9 hD9 hS9 => ?_)
      have h : rh_W G A s H locs (cw cyI cyZ n x ad' f' g' ++ rq_out cyJ o (rq_o k' fo (if r' = 0 then 0 else 1))) := by
        unfold rq_o
        rw [if_pos hk, if_pos c0]
        exact ⟨hP9, hD9, hS9⟩
      refine lv_goto (tgt := 24) hx hb dL_alloc_17 (by decide) ?_
      refine lv_iconst (v := 0) hx hb dL_alloc_24 (by decide) ?_
      refine rh_top (z := rq_k1 k') (by unfold rq_k1; rw [if_pos hk]) ?_
      exact ret _ _ _ _ dL_alloc_25 h
    · refine lv_lconst (v := 1) hx hb dL_alloc_11 (by decide) ?_
      refine lv_goto (tgt := 16) hx hb dL_alloc_12 (by decide) ?_
      refine va_last hx hb hK h.1 h.2.1 h.2.2 14 2 rfl rfl (vp_in_nI (n := 0) (N := 1) (by decide) (by decide)) dL_alloc_16 (fun H locs hP9 hD9 hS9 => ?_)
      have h : rh_W G A s H locs (cw cyI cyZ n x ad' f' g' ++ rq_out cyJ o (rq_o k' fo (if r' = 0 then 0 else 1))) := by
        unfold rq_o
        rw [if_pos hk, if_neg c0]
        exact ⟨hP9, hD9, hS9⟩
      refine lv_goto (tgt := 24) hx hb dL_alloc_17 (by decide) ?_
      refine lv_iconst (v := 0) hx hb dL_alloc_24 (by decide) ?_
      refine rh_top (z := rq_k1 k') (by unfold rq_k1; rw [if_pos hk]) ?_
      exact ret _ _ _ _ dL_alloc_25 h
abbrev rmL_put : Room := { frames := 7, cells := 1, slots := 6, locals := 162 }
set_option maxHeartbeats 4000000 in
set_option maxRecDepth 100000 in
theorem qL_put (l : Launch) (hlt : l.stackTraces = false) (G : va_G) {cyI cyZ cyJ : ClassId} {n x : Nat} {ad : Nat → Nat} {f : Nat → Int32} {g : Nat → Nat → Int32} {p1 : Int32} {p2 : Int32} {p3 : Int32} {k' : Nat} {ad' : Nat → Nat} {f' : Nat → Int32} {g' : Nat → Nat → Int32} (hs : sX2_put n ad f g p1 p2 p3 = some (k', ad', f', g')) : rq_M l yL_put wsL_put rmL_put G [(cyI, .int), (cyZ, .boolean), (cyJ, .long)] rn_C (cw cyI cyZ n x ad f g) [.ref x, .int p1, .int p2, .int p3] (rq_k2 k') (cw cyI cyZ n x ad' f' g') := by
  refine rq_of (by decide +kernel) rfl (Nat.le_of_ble_eq_true rfl) ?_
  intro p e s m below meth c A Q X hU hC htab ret ls hl h
  have hx := X.1
  have hb := X.2.1
  have hown := X.2.2.2.1
  have hts := X.2.2.2.2.1
  have hK := X.2.2.2.2.2.1
  have hNN := X.2.2.2.2.2.2.1.2
  refine lv_aload_n hx hb dL_put_0 rfl (lv_at hl 0 rfl) ?_
  refine lv_iload_n hx hb dL_put_1 rfl (lv_at hl 1 rfl) ?_
  refine lv_iload_n hx hb dL_put_2 rfl (lv_at hl 2 rfl) ?_
  refine lv_iload_n hx hb dL_put_3 rfl (lv_at hl 3 rfl) ?_
  have h : rh_W G A s s.heap [] ([] ++ (cw cyI cyZ n x ad f g ++ [])) := h
  refine rj_TVv ⟨hx, hb, X.2.2.1, hown, hts⟩ X.2.2.2.2.2.2.2 (hK.sub (tys' := [(cyI, .int), (cyZ, .boolean)]) [0, 1] rfl) X.2.2.2.2.2.2.1 hU h (kX2_put l hlt G (cyI := cyI) (cyZ := cyZ) (x := x) hs) (cwV 3 hts gL_put_X2_put rfl rfl rfl (by decide +kernel) ⟨Nat.le_of_ble_eq_true rfl, Nat.le_of_ble_eq_true rfl⟩) (va_recv hK h.1 (ci := 2) (q0 := 0) rfl rfl) rfl hl.1 (rest := []) rfl (Nat.le_of_ble_eq_true rfl) dL_put_4 ⟨Nat.le_of_ble_eq_true rfl, Nat.le_of_ble_eq_true rfl⟩ (fun hk H locs ce q9 h hc1 hc2 hc3 => ?_) (fun hk H locs h => ?_)
  · by_cases h2 : k' = 2
    · have hc3 : s.vm.findClass "java/lang/IllegalStateException" = some ce.cls := by rw [h2] at hc3; exact hc3
      refine vx_catch hown [⟨0, 7, 10, 13⟩] ⟨0, 7, 14, 19⟩ [] (htab.trans rfl) (fun z hz => ?_) (by decide) (by decide) (hts (.classLink RL 19 "java/lang/IllegalStateException") (by decide +kernel)) (va_Nw.use rfl (hNN (.castable "java/lang/IllegalStateException" "java/lang/IllegalStateException") rq_cS)) hc1 hc2 hc3 ?_
      · rcases List.mem_singleton.mp hz with rfl
        exact Or.inr ⟨by decide, "java/lang/IllegalArgumentException", hts (.classLink RL 13 "java/lang/IllegalArgumentException") (by decide +kernel), hC⟩
      · refine lv_astore (lv' := [(4, .ref q9), (0, .ref x), (1, .int p1), (2, .int p2), (3, .int p3)]) hx hb dL_put_14 hl (by decide) rfl (fun ls hl => ?_)
        refine lv_iconst (v := 2) hx hb dL_put_16 (by decide) ?_
        refine rh_top (z := rq_k2 k') (by unfold rq_k2; rw [if_neg hk, if_pos h2]) ?_
        have h : rh_W G A s H locs (cw cyI cyZ n x ad' f' g') := by have h9 : (cw cyI cyZ n x ad' f' g' : va_W) ++ [] = cw cyI cyZ n x ad' f' g' := List.append_nil _; rw [← h9]; exact h
        exact ret _ _ _ _ dL_put_17 h
    · have hc3 : s.vm.findClass "java/lang/IllegalArgumentException" = some ce.cls := by unfold rt_nA at hc3; rw [if_neg h2] at hc3; exact hc3
      refine vx_catch hown [] ⟨0, 7, 10, 13⟩ [⟨0, 7, 14, 19⟩] (htab.trans rfl) (fun z hz => absurd hz List.not_mem_nil) (by decide) (by decide) (hts (.classLink RL 13 "java/lang/IllegalArgumentException") (by decide +kernel)) (va_Nw.use rfl (hNN (.castable "java/lang/IllegalArgumentException" "java/lang/IllegalArgumentException") rq_cA)) hc1 hc2 hc3 ?_
      refine lv_astore (lv' := [(4, .ref q9), (0, .ref x), (1, .int p1), (2, .int p2), (3, .int p3)]) hx hb dL_put_10 hl (by decide) rfl (fun ls hl => ?_)
      refine lv_iconst (v := 1) hx hb dL_put_12 (by decide) ?_
      refine rh_top (z := rq_k2 k') (by unfold rq_k2; rw [if_neg hk, if_neg h2]) ?_
      have h : rh_W G A s H locs (cw cyI cyZ n x ad' f' g') := by have h9 : (cw cyI cyZ n x ad' f' g' : va_W) ++ [] = cw cyI cyZ n x ad' f' g' := List.append_nil _; rw [← h9]; exact h
      exact ret _ _ _ _ dL_put_13 h
  · refine lv_goto (tgt := 18) hx hb dL_put_7 (by decide) ?_
    have h : rh_W G A s H locs (cw cyI cyZ n x ad' f' g') := by have h9 : (cw cyI cyZ n x ad' f' g' : va_W) ++ [] = cw cyI cyZ n x ad' f' g' := List.append_nil _; rw [← h9]; exact h
    refine lv_iconst (v := 0) hx hb dL_put_18 (by decide) ?_
    refine rh_top (z := rq_k2 k') (by unfold rq_k2; rw [if_pos hk]) ?_
    exact ret _ _ _ _ dL_put_19 h
abbrev rmL_putNumber : Room := { frames := 7, cells := 1, slots := 6, locals := 161 }
set_option maxHeartbeats 4000000 in
set_option maxRecDepth 100000 in
theorem qL_putNumber (l : Launch) (hlt : l.stackTraces = false) (G : va_G) {cyI cyZ cyJ : ClassId} {n x : Nat} {ad : Nat → Nat} {f : Nat → Int32} {g : Nat → Nat → Int32} {p1 : Int32} {p2 : Int32} {p3 : Int32} {k' : Nat} {ad' : Nat → Nat} {f' : Nat → Int32} {g' : Nat → Nat → Int32} (hs : sX2_putNumber n ad f g p1 p2 p3 = some (k', ad', f', g')) : rq_M l yL_putNumber wsL_putNumber rmL_putNumber G [(cyI, .int), (cyZ, .boolean), (cyJ, .long)] rn_C (cw cyI cyZ n x ad f g) [.ref x, .int p1, .int p2, .int p3] (rq_k2 k') (cw cyI cyZ n x ad' f' g') := by
  refine rq_of (by decide +kernel) rfl (Nat.le_of_ble_eq_true rfl) ?_
  intro p e s m below meth c A Q X hU hC htab ret ls hl h
  have hx := X.1
  have hb := X.2.1
  have hown := X.2.2.2.1
  have hts := X.2.2.2.2.1
  have hK := X.2.2.2.2.2.1
  have hNN := X.2.2.2.2.2.2.1.2
  refine lv_aload_n hx hb dL_putNumber_0 rfl (lv_at hl 0 rfl) ?_
  refine lv_iload_n hx hb dL_putNumber_1 rfl (lv_at hl 1 rfl) ?_
  refine lv_iload_n hx hb dL_putNumber_2 rfl (lv_at hl 2 rfl) ?_
  refine lv_iload_n hx hb dL_putNumber_3 rfl (lv_at hl 3 rfl) ?_
  have h : rh_W G A s s.heap [] ([] ++ (cw cyI cyZ n x ad f g ++ [])) := h
  refine rj_TVv ⟨hx, hb, X.2.2.1, hown, hts⟩ X.2.2.2.2.2.2.2 (hK.sub (tys' := [(cyI, .int), (cyZ, .boolean)]) [0, 1] rfl) X.2.2.2.2.2.2.1 hU h (kX2_putNumber l hlt G (cyI := cyI) (cyZ := cyZ) (x := x) hs) (cwV 3 hts gL_putNumber_X2_putNumber rfl rfl rfl (by decide +kernel) ⟨Nat.le_of_ble_eq_true rfl, Nat.le_of_ble_eq_true rfl⟩) (va_recv hK h.1 (ci := 2) (q0 := 0) rfl rfl) rfl hl.1 (rest := []) rfl (Nat.le_of_ble_eq_true rfl) dL_putNumber_4 ⟨Nat.le_of_ble_eq_true rfl, Nat.le_of_ble_eq_true rfl⟩ (fun hk H locs ce q9 h hc1 hc2 hc3 => ?_) (fun hk H locs h => ?_)
  · by_cases h2 : k' = 2
    · have hc3 : s.vm.findClass "java/lang/IllegalStateException" = some ce.cls := by rw [h2] at hc3; exact hc3
      refine vx_catch hown [⟨0, 7, 10, 13⟩] ⟨0, 7, 14, 19⟩ [] (htab.trans rfl) (fun z hz => ?_) (by decide) (by decide) (hts (.classLink RL 19 "java/lang/IllegalStateException") (by decide +kernel)) (va_Nw.use rfl (hNN (.castable "java/lang/IllegalStateException" "java/lang/IllegalStateException") rq_cS)) hc1 hc2 hc3 ?_
      · rcases List.mem_singleton.mp hz with rfl
        exact Or.inr ⟨by decide, "java/lang/IllegalArgumentException", hts (.classLink RL 13 "java/lang/IllegalArgumentException") (by decide +kernel), hC⟩
      · refine lv_astore (lv' := [(4, .ref q9), (0, .ref x), (1, .int p1), (2, .int p2), (3, .int p3)]) hx hb dL_putNumber_14 hl (by decide) rfl (fun ls hl => ?_)
        refine lv_iconst (v := 2) hx hb dL_putNumber_16 (by decide) ?_
        refine rh_top (z := rq_k2 k') (by unfold rq_k2; rw [if_neg hk, if_pos h2]) ?_
        have h : rh_W G A s H locs (cw cyI cyZ n x ad' f' g') := by have h9 : (cw cyI cyZ n x ad' f' g' : va_W) ++ [] = cw cyI cyZ n x ad' f' g' := List.append_nil _; rw [← h9]; exact h
        exact ret _ _ _ _ dL_putNumber_17 h
    · have hc3 : s.vm.findClass "java/lang/IllegalArgumentException" = some ce.cls := by unfold rt_nA at hc3; rw [if_neg h2] at hc3; exact hc3
      refine vx_catch hown [] ⟨0, 7, 10, 13⟩ [⟨0, 7, 14, 19⟩] (htab.trans rfl) (fun z hz => absurd hz List.not_mem_nil) (by decide) (by decide) (hts (.classLink RL 13 "java/lang/IllegalArgumentException") (by decide +kernel)) (va_Nw.use rfl (hNN (.castable "java/lang/IllegalArgumentException" "java/lang/IllegalArgumentException") rq_cA)) hc1 hc2 hc3 ?_
      refine lv_astore (lv' := [(4, .ref q9), (0, .ref x), (1, .int p1), (2, .int p2), (3, .int p3)]) hx hb dL_putNumber_10 hl (by decide) rfl (fun ls hl => ?_)
      refine lv_iconst (v := 1) hx hb dL_putNumber_12 (by decide) ?_
      refine rh_top (z := rq_k2 k') (by unfold rq_k2; rw [if_neg hk, if_neg h2]) ?_
      have h : rh_W G A s H locs (cw cyI cyZ n x ad' f' g') := by have h9 : (cw cyI cyZ n x ad' f' g' : va_W) ++ [] = cw cyI cyZ n x ad' f' g' := List.append_nil _; rw [← h9]; exact h
      exact ret _ _ _ _ dL_putNumber_13 h
  · refine lv_goto (tgt := 18) hx hb dL_putNumber_7 (by decide) ?_
    have h : rh_W G A s H locs (cw cyI cyZ n x ad' f' g') := by have h9 : (cw cyI cyZ n x ad' f' g' : va_W) ++ [] = cw cyI cyZ n x ad' f' g' := List.append_nil _; rw [← h9]; exact h
    refine lv_iconst (v := 0) hx hb dL_putNumber_18 (by decide) ?_
    refine rh_top (z := rq_k2 k') (by unfold rq_k2; rw [if_pos hk]) ?_
    exact ret _ _ _ _ dL_putNumber_19 h
abbrev rmL_get : Room := { frames := 7, cells := 1, slots := 6, locals := 114 }
set_option maxHeartbeats 4000000 in
set_option maxRecDepth 100000 in
theorem qL_get (l : Launch) (hlt : l.stackTraces = false) (G : va_G) {cyI cyZ cyJ : ClassId} {n x : Nat} {ad : Nat → Nat} {f : Nat → Int32} {g : Nat → Nat → Int32} {p1 : Int32} {p2 : Int32} {p3 : Int32} {k' : Nat} {f' : Nat → Int32} {g' : Nat → Nat → Int32} (hs : sX2_get n ad f g p1 p2 p3 = some (k', f', g')) : rq_M l yL_get wsL_get rmL_get G [(cyI, .int), (cyZ, .boolean), (cyJ, .long)] rn_C (cw cyI cyZ n x ad f g) [.ref x, .int p1, .int p2, .int p3] (rq_k2 k') (cw cyI cyZ n x ad f' g') := by
  refine rq_of (by decide +kernel) rfl (Nat.le_of_ble_eq_true rfl) ?_
  intro p e s m below meth c A Q X hU hC htab ret ls hl h
  have hx := X.1
  have hb := X.2.1
  have hown := X.2.2.2.1
  have hts := X.2.2.2.2.1
  have hK := X.2.2.2.2.2.1
  have hNN := X.2.2.2.2.2.2.1.2
  refine lv_aload_n hx hb dL_get_0 rfl (lv_at hl 0 rfl) ?_
  refine lv_iload_n hx hb dL_get_1 rfl (lv_at hl 1 rfl) ?_
  refine lv_iload_n hx hb dL_get_2 rfl (lv_at hl 2 rfl) ?_
  refine lv_iload_n hx hb dL_get_3 rfl (lv_at hl 3 rfl) ?_
  have h : rh_W G A s s.heap [] ([] ++ (cw cyI cyZ n x ad f g ++ [])) := h
  refine rj_TVv ⟨hx, hb, X.2.2.1, hown, hts⟩ X.2.2.2.2.2.2.2 (hK.sub (tys' := [(cyI, .int), (cyZ, .boolean)]) [0, 1] rfl) X.2.2.2.2.2.2.1 hU h (kX2_get l hlt G (cyI := cyI) (cyZ := cyZ) (x := x) hs) (cwV 3 hts gL_get_X2_get rfl rfl rfl (by decide +kernel) ⟨Nat.le_of_ble_eq_true rfl, Nat.le_of_ble_eq_true rfl⟩) (va_recv hK h.1 (ci := 2) (q0 := 0) rfl rfl) rfl hl.1 (rest := []) rfl (Nat.le_of_ble_eq_true rfl) dL_get_4 ⟨Nat.le_of_ble_eq_true rfl, Nat.le_of_ble_eq_true rfl⟩ (fun hk H locs ce q9 h hc1 hc2 hc3 => ?_) (fun hk H locs h => ?_)
  · by_cases h2 : k' = 2
    · have hc3 : s.vm.findClass "java/lang/IllegalStateException" = some ce.cls := by rw [h2] at hc3; exact hc3
      refine vx_catch hown [⟨0, 7, 10, 13⟩] ⟨0, 7, 14, 19⟩ [] (htab.trans rfl) (fun z hz => ?_) (by decide) (by decide) (hts (.classLink RL 19 "java/lang/IllegalStateException") (by decide +kernel)) (va_Nw.use rfl (hNN (.castable "java/lang/IllegalStateException" "java/lang/IllegalStateException") rq_cS)) hc1 hc2 hc3 ?_
      · rcases List.mem_singleton.mp hz with rfl
        exact Or.inr ⟨by decide, "java/lang/IllegalArgumentException", hts (.classLink RL 13 "java/lang/IllegalArgumentException") (by decide +kernel), hC⟩
      · refine lv_astore (lv' := [(4, .ref q9), (0, .ref x), (1, .int p1), (2, .int p2), (3, .int p3)]) hx hb dL_get_14 hl (by decide) rfl (fun ls hl => ?_)
        refine lv_iconst (v := 2) hx hb dL_get_16 (by decide) ?_
        refine rh_top (z := rq_k2 k') (by unfold rq_k2; rw [if_neg hk, if_pos h2]) ?_
        have h : rh_W G A s H locs (cw cyI cyZ n x ad f' g') := by have h9 : (cw cyI cyZ n x ad f' g' : va_W) ++ [] = cw cyI cyZ n x ad f' g' := List.append_nil _; rw [← h9]; exact h
        exact ret _ _ _ _ dL_get_17 h
    · have hc3 : s.vm.findClass "java/lang/IllegalArgumentException" = some ce.cls := by unfold rt_nA at hc3; rw [if_neg h2] at hc3; exact hc3
      refine vx_catch hown [] ⟨0, 7, 10, 13⟩ [⟨0, 7, 14, 19⟩] (htab.trans rfl) (fun z hz => absurd hz List.not_mem_nil) (by decide) (by decide) (hts (.classLink RL 13 "java/lang/IllegalArgumentException") (by decide +kernel)) (va_Nw.use rfl (hNN (.castable "java/lang/IllegalArgumentException" "java/lang/IllegalArgumentException") rq_cA)) hc1 hc2 hc3 ?_
      refine lv_astore (lv' := [(4, .ref q9), (0, .ref x), (1, .int p1), (2, .int p2), (3, .int p3)]) hx hb dL_get_10 hl (by decide) rfl (fun ls hl => ?_)
      refine lv_iconst (v := 1) hx hb dL_get_12 (by decide) ?_
      refine rh_top (z := rq_k2 k') (by unfold rq_k2; rw [if_neg hk, if_neg h2]) ?_
      have h : rh_W G A s H locs (cw cyI cyZ n x ad f' g') := by have h9 : (cw cyI cyZ n x ad f' g' : va_W) ++ [] = cw cyI cyZ n x ad f' g' := List.append_nil _; rw [← h9]; exact h
      exact ret _ _ _ _ dL_get_13 h
  · refine lv_goto (tgt := 18) hx hb dL_get_7 (by decide) ?_
    have h : rh_W G A s H locs (cw cyI cyZ n x ad f' g') := by have h9 : (cw cyI cyZ n x ad f' g' : va_W) ++ [] = cw cyI cyZ n x ad f' g' := List.append_nil _; rw [← h9]; exact h
    refine lv_iconst (v := 0) hx hb dL_get_18 (by decide) ?_
    refine rh_top (z := rq_k2 k') (by unfold rq_k2; rw [if_pos hk]) ?_
    exact ret _ _ _ _ dL_get_19 h
abbrev rmL_collect : Room := { frames := 7, cells := 1, slots := 6, locals := 135 }
set_option maxHeartbeats 4000000 in
set_option maxRecDepth 100000 in
theorem qL_collect (l : Launch) (hlt : l.stackTraces = false) (G : va_G) {cyI cyZ cyJ : ClassId} {n x o : Nat} {ad : Nat → Nat} {f : Nat → Int32} {g : Nat → Nat → Int32} {fo : Nat → Int64} {p1 : Int32} {k' : Nat} {r' : Int32} {ad' : Nat → Nat} {f' : Nat → Int32} {g' : Nat → Nat → Int32} (hs : sX2_collect n ad f g p1 = some (k', r', ad', f', g')) : rq_M l yL_collect wsL_collect rmL_collect G [(cyI, .int), (cyZ, .boolean), (cyJ, .long)] rn_C (cw cyI cyZ n x ad f g ++ rq_out cyJ o fo) [.ref x, .int p1, .ref o] (rq_k1 k') (cw cyI cyZ n x ad' f' g' ++ rq_out cyJ o (rq_o k' fo r'.toInt64)) := by
  refine rq_of (by decide +kernel) rfl (Nat.le_of_ble_eq_true rfl) ?_
  intro p e s m below meth c A Q X hU hC htab ret ls hl h
  have hx := X.1
  have hb := X.2.1
  have hown := X.2.2.2.1
  have hts := X.2.2.2.2.1
  have hK := X.2.2.2.2.2.1
  have hNN := X.2.2.2.2.2.2.1.2
  refine lv_aload_n hx hb dL_collect_0 rfl (lv_at hl 2 rfl) ?_
  refine lv_iconst (v := 0) hx hb dL_collect_1 (by decide) ?_
  refine lv_aload_n hx hb dL_collect_2 rfl (lv_at hl 0 rfl) ?_
  refine lv_iload_n hx hb dL_collect_3 rfl (lv_at hl 1 rfl) ?_
  have h : rh_W G A s s.heap [] ([] ++ (cw cyI cyZ n x ad f g ++ rq_out cyJ o fo)) := h
  refine rj_TVi ⟨hx, hb, X.2.2.1, hown, hts⟩ X.2.2.2.2.2.2.2 (hK.sub (tys' := [(cyI, .int), (cyZ, .boolean)]) [0, 1] rfl) X.2.2.2.2.2.2.1 hU h (kX2_collect l hlt G (cyI := cyI) (cyZ := cyZ) (x := x) hs) (cwV 1 hts gL_collect_X2_collect rfl rfl rfl (by decide +kernel) ⟨Nat.le_of_ble_eq_true rfl, Nat.le_of_ble_eq_true rfl⟩) (va_recv hK h.1 (ci := 2) (q0 := 0) rfl rfl) rfl hl.1 (rest := [.int 0, .ref o]) rfl (Nat.le_of_ble_eq_true rfl) dL_collect_4 ⟨Nat.le_of_ble_eq_true rfl, Nat.le_of_ble_eq_true rfl⟩ (fun hk H locs ce q9 h hc1 hc2 hc3 => ?_) (fun hk H locs h => ?_)
  · refine vx_catch hown [] ⟨0, 9, 12, 13⟩ [] (htab.trans rfl) (fun z hz => absurd hz List.not_mem_nil) (by decide) (by decide) (hts (.classLink RL 13 "java/lang/IllegalArgumentException") (by decide +kernel)) (va_Nw.use rfl (hNN (.castable "java/lang/IllegalArgumentException" "java/lang/IllegalArgumentException") rq_cA)) hc1 hc2 hc3 ?_
    refine lv_astore_n (lv' := [(3, .ref q9), (0, .ref x), (1, .int p1), (2, .ref o)]) hx hb dL_collect_12 rfl hl (by decide) rfl (fun ls hl => ?_)
    refine lv_iconst (v := 1) hx hb dL_collect_13 (by decide) ?_
    refine rh_top (z := rq_k1 k') (by unfold rq_k1; rw [if_neg hk]) ?_
    have h : rh_W G A s H locs (cw cyI cyZ n x ad' f' g' ++ rq_out cyJ o (rq_o k' fo r'.toInt64)) := by unfold rq_o; rw [if_neg hk]; exact h
    exact ret _ _ _ _ dL_collect_14 h
  · refine lv_i2l hx hb dL_collect_7 rfl ?_
    refine va_last hx hb hK h.1 h.2.1 h.2.2 14 2 rfl rfl (vp_in_nI (n := 0) (N := 1) (by decide) (by decide)) dL_collect_8 (fun H locs hP9 hD9 hS9 => ?_)
    have h : rh_W G A s H locs (cw cyI cyZ n x ad' f' g' ++ rq_out cyJ o (rq_o k' fo r'.toInt64)) := by
      unfold rq_o
      rw [if_pos hk]
      exact ⟨hP9, hD9, hS9⟩
    refine lv_goto (tgt := 15) hx hb dL_collect_9 (by decide) ?_
    refine lv_iconst (v := 0) hx hb dL_collect_15 (by decide) ?_
    refine rh_top (z := rq_k1 k') (by unfold rq_k1; rw [if_pos hk]) ?_
    exact ret _ _ _ _ dL_collect_16 h
abbrev rmL_look : Room := { frames := 7, cells := 1, slots := 6, locals := 114 }
set_option maxHeartbeats 4000000 in
set_option maxRecDepth 100000 in
theorem qL_look (l : Launch) (hlt : l.stackTraces = false) (G : va_G) {cyI cyZ cyJ : ClassId} {n x o : Nat} {ad : Nat → Nat} {f : Nat → Int32} {g : Nat → Nat → Int32} {fo : Nat → Int64} {p1 : Int32} {p2 : Int32} {k' : Nat} {r' : Int32} (hs : sX2_look n ad f g p1 p2 = some (k', r')) : rq_M l yL_look wsL_look rmL_look G [(cyI, .int), (cyZ, .boolean), (cyJ, .long)] rn_C (cw cyI cyZ n x ad f g ++ rq_out cyJ o fo) [.ref x, .int p1, .int p2, .ref o] (rq_k1 k') (cw cyI cyZ n x ad f g ++ rq_out cyJ o (rq_o k' fo r'.toInt64)) := by
  refine rq_of (by decide +kernel) rfl (Nat.le_of_ble_eq_true rfl) ?_
  intro p e s m below meth c A Q X hU hC htab ret ls hl h
  have hx := X.1
  have hb := X.2.1
  have hown := X.2.2.2.1
  have hts := X.2.2.2.2.1
  have hK := X.2.2.2.2.2.1
  have hNN := X.2.2.2.2.2.2.1.2
  refine lv_aload_n hx hb dL_look_0 rfl (lv_at hl 3 rfl) ?_
  refine lv_iconst (v := 0) hx hb dL_look_1 (by decide) ?_
  refine lv_aload_n hx hb dL_look_2 rfl (lv_at hl 0 rfl) ?_
  refine lv_iload_n hx hb dL_look_3 rfl (lv_at hl 1 rfl) ?_
  refine lv_iload_n hx hb dL_look_4 rfl (lv_at hl 2 rfl) ?_
  have h : rh_W G A s s.heap [] ([] ++ (cw cyI cyZ n x ad f g ++ rq_out cyJ o fo)) := h
  refine rj_TVi ⟨hx, hb, X.2.2.1, hown, hts⟩ X.2.2.2.2.2.2.2 (hK.sub (tys' := [(cyI, .int), (cyZ, .boolean)]) [0, 1] rfl) X.2.2.2.2.2.2.1 hU h (kX2_look l hlt G (cyI := cyI) (cyZ := cyZ) (x := x) hs) (cwV 2 hts gL_look_X2_look rfl rfl rfl (by decide +kernel) ⟨Nat.le_of_ble_eq_true rfl, Nat.le_of_ble_eq_true rfl⟩) (va_recv hK h.1 (ci := 2) (q0 := 0) rfl rfl) rfl hl.1 (rest := [.int 0, .ref o]) rfl (Nat.le_of_ble_eq_true rfl) dL_look_5 ⟨Nat.le_of_ble_eq_true rfl, Nat.le_of_ble_eq_true rfl⟩ (fun hk H locs ce q9 h hc1 hc2 hc3 => ?_) (fun hk H locs h => ?_)
  · refine vx_catch hown [] ⟨0, 10, 13, 35⟩ [] (htab.trans rfl) (fun z hz => absurd hz List.not_mem_nil) (by decide) (by decide) (hts (.classLink RL 35 "java/lang/IndexOutOfBoundsException") (by decide +kernel)) (va_Nw.use rfl (hNN (.castable "java/lang/IndexOutOfBoundsException" "java/lang/IndexOutOfBoundsException") rq_cI)) hc1 hc2 hc3 ?_
    refine lv_astore (lv' := [(4, .ref q9), (0, .ref x), (1, .int p1), (2, .int p2), (3, .ref o)]) hx hb dL_look_13 hl (by decide) rfl (fun ls hl => ?_)
    refine lv_iconst (v := 1) hx hb dL_look_15 (by decide) ?_
    refine rh_top (z := rq_k1 k') (by unfold rq_k1; rw [if_neg hk]) ?_
    have h : rh_W G A s H locs (cw cyI cyZ n x ad f g ++ rq_out cyJ o (rq_o k' fo r'.toInt64)) := by unfold rq_o; rw [if_neg hk]; exact h
    exact ret _ _ _ _ dL_look_16 h
  · refine lv_i2l hx hb dL_look_8 rfl ?_
    refine va_last hx hb hK h.1 h.2.1 h.2.2 14 2 rfl rfl (vp_in_nI (n := 0) (N := 1) (by decide) (by decide)) dL_look_9 (fun H locs hP9 hD9 hS9 => ?_)
    have h : rh_W G A s H locs (cw cyI cyZ n x ad f g ++ rq_out cyJ o (rq_o k' fo r'.toInt64)) := by
      unfold rq_o
      rw [if_pos hk]
      exact ⟨hP9, hD9, hS9⟩
    refine lv_goto (tgt := 17) hx hb dL_look_10 (by decide) ?_
    refine lv_iconst (v := 0) hx hb dL_look_17 (by decide) ?_
    refine rh_top (z := rq_k1 k') (by unfold rq_k1; rw [if_pos hk]) ?_
    exact ret _ _ _ _ dL_look_18 h
abbrev rmL_field : Room := { frames := 7, cells := 1, slots := 6, locals := 114 }
set_option maxHeartbeats 4000000 in
set_option maxRecDepth 100000 in
theorem qL_field (l : Launch) (hlt : l.stackTraces = false) (G : va_G) {cyI cyZ cyJ : ClassId} {n x o : Nat} {ad : Nat → Nat} {f : Nat → Int32} {g : Nat → Nat → Int32} {fo : Nat → Int64} {p1 : Int32} {p2 : Int32} {p3 : Int32} {k' : Nat} {r' : Int32} (hs : sX2_field n ad f g p1 p2 p3 = some (k', r')) : rq_M l yL_field wsL_field rmL_field G [(cyI, .int), (cyZ, .boolean), (cyJ, .long)] rn_C (cw cyI cyZ n x ad f g ++ rq_out cyJ o fo) [.ref x, .int p1, .int p2, .int p3, .ref o] (rq_k1 k') (cw cyI cyZ n x ad f g ++ rq_out cyJ o (rq_o k' fo r'.toInt64)) := by
  refine rq_of (by decide +kernel) rfl (Nat.le_of_ble_eq_true rfl) ?_
  intro p e s m below meth c A Q X hU hC htab ret ls hl h
  have hx := X.1
  have hb := X.2.1
  have hown := X.2.2.2.1
  have hts := X.2.2.2.2.1
  have hK := X.2.2.2.2.2.1
  have hNN := X.2.2.2.2.2.2.1.2
  refine lv_aload hx hb dL_field_0 (lv_at hl 4 rfl) ?_
  refine lv_iconst (v := 0) hx hb dL_field_2 (by decide) ?_
  refine lv_aload_n hx hb dL_field_3 rfl (lv_at hl 0 rfl) ?_
  refine lv_iload_n hx hb dL_field_4 rfl (lv_at hl 1 rfl) ?_
  refine lv_iload_n hx hb dL_field_5 rfl (lv_at hl 2 rfl) ?_
  refine lv_iload_n hx hb dL_field_6 rfl (lv_at hl 3 rfl) ?_
  have h : rh_W G A s s.heap [] ([] ++ (cw cyI cyZ n x ad f g ++ rq_out cyJ o fo)) := h
  refine rj_TVi ⟨hx, hb, X.2.2.1, hown, hts⟩ X.2.2.2.2.2.2.2 (hK.sub (tys' := [(cyI, .int), (cyZ, .boolean)]) [0, 1] rfl) X.2.2.2.2.2.2.1 hU h (kX2_field l hlt G (cyI := cyI) (cyZ := cyZ) (x := x) hs) (cwV 3 hts gL_field_X2_field rfl rfl rfl (by decide +kernel) ⟨Nat.le_of_ble_eq_true rfl, Nat.le_of_ble_eq_true rfl⟩) (va_recv hK h.1 (ci := 2) (q0 := 0) rfl rfl) rfl hl.1 (rest := [.int 0, .ref o]) rfl (Nat.le_of_ble_eq_true rfl) dL_field_7 ⟨Nat.le_of_ble_eq_true rfl, Nat.le_of_ble_eq_true rfl⟩ (fun hk H locs ce q9 h hc1 hc2 hc3 => ?_) (fun hk H locs h => ?_)
  · refine vx_catch hown [] ⟨0, 12, 15, 35⟩ [] (htab.trans rfl) (fun z hz => absurd hz List.not_mem_nil) (by decide) (by decide) (hts (.classLink RL 35 "java/lang/IndexOutOfBoundsException") (by decide +kernel)) (va_Nw.use rfl (hNN (.castable "java/lang/IndexOutOfBoundsException" "java/lang/IndexOutOfBoundsException") rq_cI)) hc1 hc2 hc3 ?_
    refine lv_astore (lv' := [(5, .ref q9), (0, .ref x), (1, .int p1), (2, .int p2), (3, .int p3), (4, .ref o)]) hx hb dL_field_15 hl (by decide) rfl (fun ls hl => ?_)
    refine lv_iconst (v := 1) hx hb dL_field_17 (by decide) ?_
    refine rh_top (z := rq_k1 k') (by unfold rq_k1; rw [if_neg hk]) ?_
    have h : rh_W G A s H locs (cw cyI cyZ n x ad f g ++ rq_out cyJ o (rq_o k' fo r'.toInt64)) := by unfold rq_o; rw [if_neg hk]; exact h
    exact ret _ _ _ _ dL_field_18 h
  · refine lv_i2l hx hb dL_field_10 rfl ?_
    refine va_last hx hb hK h.1 h.2.1 h.2.2 14 2 rfl rfl (vp_in_nI (n := 0) (N := 1) (by decide) (by decide)) dL_field_11 (fun H locs hP9 hD9 hS9 => ?_)
    have h : rh_W G A s H locs (cw cyI cyZ n x ad f g ++ rq_out cyJ o (rq_o k' fo r'.toInt64)) := by
      unfold rq_o
      rw [if_pos hk]
      exact ⟨hP9, hD9, hS9⟩
    refine lv_goto (tgt := 19) hx hb dL_field_12 (by decide) ?_
    refine lv_iconst (v := 0) hx hb dL_field_19 (by decide) ?_
    refine rh_top (z := rq_k1 k') (by unfold rq_k1; rw [if_pos hk]) ?_
    exact ret _ _ _ _ dL_field_20 h
abbrev rmL_cell_ : Room := { frames := 7, cells := 1, slots := 6, locals := 114 }
set_option maxHeartbeats 4000000 in
set_option maxRecDepth 100000 in
theorem qL_cell_ (l : Launch) (hlt : l.stackTraces = false) (G : va_G) {cyI cyZ cyJ : ClassId} {n x o : Nat} {ad : Nat → Nat} {f : Nat → Int32} {g : Nat → Nat → Int32} {fo : Nat → Int64} {p1 : Int32} {p2 : Int32} {p3 : Int32} {k' : Nat} {r' : Int32} (hs : sX2_cell n ad f g p1 p2 p3 = some (k', r')) : rq_M l yL_cell_ wsL_cell_ rmL_cell_ G [(cyI, .int), (cyZ, .boolean), (cyJ, .long)] rn_C (cw cyI cyZ n x ad f g ++ rq_out cyJ o fo) [.ref x, .int p1, .int p2, .int p3, .ref o] (rq_k1 k') (cw cyI cyZ n x ad f g ++ rq_out cyJ o (rq_o k' fo r'.toInt64)) := by
  refine rq_of (by decide +kernel) rfl (Nat.le_of_ble_eq_true rfl) ?_
  intro p e s m below meth c A Q X hU hC htab ret ls hl h
  have hx := X.1
  have hb := X.2.1
  have hown := X.2.2.2.1
  have hts := X.2.2.2.2.1
  have hK := X.2.2.2.2.2.1
  have hNN := X.2.2.2.2.2.2.1.2
  refine lv_aload hx hb dL_cell__0 (lv_at hl 4 rfl) ?_
  refine lv_iconst (v := 0) hx hb dL_cell__2 (by decide) ?_
  refine lv_aload_n hx hb dL_cell__3 rfl (lv_at hl 0 rfl) ?_
  refine lv_iload_n hx hb dL_cell__4 rfl (lv_at hl 1 rfl) ?_
  refine lv_iload_n hx hb dL_cell__5 rfl (lv_at hl 2 rfl) ?_
  refine lv_iload_n hx hb dL_cell__6 rfl (lv_at hl 3 rfl) ?_
  have h : rh_W G A s s.heap [] ([] ++ (cw cyI cyZ n x ad f g ++ rq_out cyJ o fo)) := h
  refine rj_TVi ⟨hx, hb, X.2.2.1, hown, hts⟩ X.2.2.2.2.2.2.2 (hK.sub (tys' := [(cyI, .int), (cyZ, .boolean)]) [0, 1] rfl) X.2.2.2.2.2.2.1 hU h (kX2_cell l hlt G (cyI := cyI) (cyZ := cyZ) (x := x) hs) (cwV 3 hts gL_cell__X2_cell rfl rfl rfl (by decide +kernel) ⟨Nat.le_of_ble_eq_true rfl, Nat.le_of_ble_eq_true rfl⟩) (va_recv hK h.1 (ci := 2) (q0 := 0) rfl rfl) rfl hl.1 (rest := [.int 0, .ref o]) rfl (Nat.le_of_ble_eq_true rfl) dL_cell__7 ⟨Nat.le_of_ble_eq_true rfl, Nat.le_of_ble_eq_true rfl⟩ (fun hk H locs ce q9 h hc1 hc2 hc3 => ?_) (fun hk H locs h => ?_)
  · refine vx_catch hown [] ⟨0, 12, 15, 35⟩ [] (htab.trans rfl) (fun z hz => absurd hz List.not_mem_nil) (by decide) (by decide) (hts (.classLink RL 35 "java/lang/IndexOutOfBoundsException") (by decide +kernel)) (va_Nw.use rfl (hNN (.castable "java/lang/IndexOutOfBoundsException" "java/lang/IndexOutOfBoundsException") rq_cI)) hc1 hc2 hc3 ?_
    refine lv_astore (lv' := [(5, .ref q9), (0, .ref x), (1, .int p1), (2, .int p2), (3, .int p3), (4, .ref o)]) hx hb dL_cell__15 hl (by decide) rfl (fun ls hl => ?_)
    refine lv_iconst (v := 1) hx hb dL_cell__17 (by decide) ?_
    refine rh_top (z := rq_k1 k') (by unfold rq_k1; rw [if_neg hk]) ?_
    have h : rh_W G A s H locs (cw cyI cyZ n x ad f g ++ rq_out cyJ o (rq_o k' fo r'.toInt64)) := by unfold rq_o; rw [if_neg hk]; exact h
    exact ret _ _ _ _ dL_cell__18 h
  · refine lv_i2l hx hb dL_cell__10 rfl ?_
    refine va_last hx hb hK h.1 h.2.1 h.2.2 14 2 rfl rfl (vp_in_nI (n := 0) (N := 1) (by decide) (by decide)) dL_cell__11 (fun H locs hP9 hD9 hS9 => ?_)
    have h : rh_W G A s H locs (cw cyI cyZ n x ad f g ++ rq_out cyJ o (rq_o k' fo r'.toInt64)) := by
      unfold rq_o
      rw [if_pos hk]
      exact ⟨hP9, hD9, hS9⟩
    refine lv_goto (tgt := 19) hx hb dL_cell__12 (by decide) ?_
    refine lv_iconst (v := 0) hx hb dL_cell__19 (by decide) ?_
    refine rh_top (z := rq_k1 k') (by unfold rq_k1; rw [if_pos hk]) ?_
    exact ret _ _ _ _ dL_cell__20 h
abbrev rmL_entry : Room := { frames := 7, cells := 1, slots := 6, locals := 112 }
set_option maxHeartbeats 4000000 in
set_option maxRecDepth 100000 in
theorem qL_entry (l : Launch) (hlt : l.stackTraces = false) (G : va_G) {cyI cyZ cyJ : ClassId} {n x o : Nat} {ad : Nat → Nat} {f : Nat → Int32} {g : Nat → Nat → Int32} {fo : Nat → Int64} {p1 : Int32} {p2 : Int32} {k' : Nat} {r' : Int32} (hs : sX2_entry n ad f g p1 p2 = some (k', r')) : rq_M l yL_entry wsL_entry rmL_entry G [(cyI, .int), (cyZ, .boolean), (cyJ, .long)] rn_C (cw cyI cyZ n x ad f g ++ rq_out cyJ o fo) [.ref x, .int p1, .int p2, .ref o] (rq_k1 k') (cw cyI cyZ n x ad f g ++ rq_out cyJ o (rq_o k' fo r'.toInt64)) := by
  refine rq_of (by decide +kernel) rfl (Nat.le_of_ble_eq_true rfl) ?_
  intro p e s m below meth c A Q X hU hC htab ret ls hl h
  have hx := X.1
  have hb := X.2.1
  have hown := X.2.2.2.1
  have hts := X.2.2.2.2.1
  have hK := X.2.2.2.2.2.1
  have hNN := X.2.2.2.2.2.2.1.2
  refine lv_aload_n hx hb dL_entry_0 rfl (lv_at hl 3 rfl) ?_
  refine lv_iconst (v := 0) hx hb dL_entry_1 (by decide) ?_
  refine lv_aload_n hx hb dL_entry_2 rfl (lv_at hl 0 rfl) ?_
  refine lv_iload_n hx hb dL_entry_3 rfl (lv_at hl 1 rfl) ?_
  refine lv_iload_n hx hb dL_entry_4 rfl (lv_at hl 2 rfl) ?_
  have h : rh_W G A s s.heap [] ([] ++ (cw cyI cyZ n x ad f g ++ rq_out cyJ o fo)) := h
  refine rj_TVi ⟨hx, hb, X.2.2.1, hown, hts⟩ X.2.2.2.2.2.2.2 (hK.sub (tys' := [(cyI, .int), (cyZ, .boolean)]) [0, 1] rfl) X.2.2.2.2.2.2.1 hU h (kX2_entry l hlt G (cyI := cyI) (cyZ := cyZ) (x := x) hs) (cwV 2 hts gL_entry_X2_entry rfl rfl rfl (by decide +kernel) ⟨Nat.le_of_ble_eq_true rfl, Nat.le_of_ble_eq_true rfl⟩) (va_recv hK h.1 (ci := 2) (q0 := 0) rfl rfl) rfl hl.1 (rest := [.int 0, .ref o]) rfl (Nat.le_of_ble_eq_true rfl) dL_entry_5 ⟨Nat.le_of_ble_eq_true rfl, Nat.le_of_ble_eq_true rfl⟩ (fun hk H locs ce q9 h hc1 hc2 hc3 => ?_) (fun hk H locs h => ?_)
  · refine vx_catch hown [] ⟨0, 10, 13, 35⟩ [] (htab.trans rfl) (fun z hz => absurd hz List.not_mem_nil) (by decide) (by decide) (hts (.classLink RL 35 "java/lang/IndexOutOfBoundsException") (by decide +kernel)) (va_Nw.use rfl (hNN (.castable "java/lang/IndexOutOfBoundsException" "java/lang/IndexOutOfBoundsException") rq_cI)) hc1 hc2 hc3 ?_
    refine lv_astore (lv' := [(4, .ref q9), (0, .ref x), (1, .int p1), (2, .int p2), (3, .ref o)]) hx hb dL_entry_13 hl (by decide) rfl (fun ls hl => ?_)
    refine lv_iconst (v := 1) hx hb dL_entry_15 (by decide) ?_
    refine rh_top (z := rq_k1 k') (by unfold rq_k1; rw [if_neg hk]) ?_
    have h : rh_W G A s H locs (cw cyI cyZ n x ad f g ++ rq_out cyJ o (rq_o k' fo r'.toInt64)) := by unfold rq_o; rw [if_neg hk]; exact h
    exact ret _ _ _ _ dL_entry_16 h
  · refine lv_i2l hx hb dL_entry_8 rfl ?_
    refine va_last hx hb hK h.1 h.2.1 h.2.2 14 2 rfl rfl (vp_in_nI (n := 0) (N := 1) (by decide) (by decide)) dL_entry_9 (fun H locs hP9 hD9 hS9 => ?_)
    have h : rh_W G A s H locs (cw cyI cyZ n x ad f g ++ rq_out cyJ o (rq_o k' fo r'.toInt64)) := by
      unfold rq_o
      rw [if_pos hk]
      exact ⟨hP9, hD9, hS9⟩
    refine lv_goto (tgt := 17) hx hb dL_entry_10 (by decide) ?_
    refine lv_iconst (v := 0) hx hb dL_entry_17 (by decide) ?_
    refine rh_top (z := rq_k1 k') (by unfold rq_k1; rw [if_pos hk]) ?_
    exact ret _ _ _ _ dL_entry_18 h
