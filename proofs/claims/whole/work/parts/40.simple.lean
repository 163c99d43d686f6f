theorem root_cases (p : Int32) : (∃ r, r < 16 ∧ p = nI r ∧ sX2_isRoot p = some 1 ∧ sX3_isRoot p = some 1) ∨ (sX2_isRoot p = some 0 ∧ sX3_isRoot p = some 0) := by
  unfold sX2_isRoot sX3_isRoot
  by_cases h1 : p < 0
  · rw [if_pos h1]; exact Or.inr ⟨rfl, rfl⟩
  · by_cases h2 : 16 ≤ p
    · rw [if_neg h1, if_pos h2]; exact Or.inr ⟨rfl, rfl⟩
    · obtain ⟨j, hj, e⟩ := nI_of h1
      refine Or.inl ⟨j, ?_, e, by rw [if_neg h1, if_neg h2], by rw [if_neg h1, if_neg h2]⟩
      refine Nat.not_le.mp fun q => h2 ?_
      rw [e]
      exact nI_le (a := 16) q hj
theorem i10 : ¬ (1 : Int32) = 0 := by decide
theorem i1le0 : ¬ (1 : Int32) ≤ 0 := by decide
theorem i0le0 : (0 : Int32) ≤ 0 := by decide
theorem i_le1 {x : Int32} : x ≤ 1 ↔ ¬ 2 ≤ x := by
  rw [Int32.le_iff_toInt_le, Int32.le_iff_toInt_le, show (1 : Int32).toInt = 1 by decide, show (2 : Int32).toInt = 2 by decide]; omega
theorem i_le2 {x : Int32} : x ≤ 2 ↔ ¬ 3 ≤ x := by
  rw [Int32.le_iff_toInt_le, Int32.le_iff_toInt_le, show (3 : Int32).toInt = 3 by decide, show (2 : Int32).toInt = 2 by decide]; omega
theorem i_le3 {x : Int32} : x ≤ 3 ↔ ¬ 4 ≤ x := by
  rw [Int32.le_iff_toInt_le, Int32.le_iff_toInt_le, show (3 : Int32).toInt = 3 by decide, show (4 : Int32).toInt = 4 by decide]; omega
theorem i_le8 {x : Int32} : x ≤ 8 ↔ ¬ 8 < x := by
  rw [Int32.le_iff_toInt_le, Int32.lt_iff_toInt_lt]; omega
theorem vn0 : vp_nar .boolean 0 = 0 := by decide
theorem vn1 : vp_nar .boolean 1 = 1 := by decide
theorem vn {v : Int32} (h : v = 0 ∨ v = 1) : vp_nar .boolean v = v := by
  rcases h with rfl | rfl
  · exact vn0
  · exact vn1
theorem set_s {n r : Nat} {ad : Nat → Nat} {f : Nat → Int32} {g : Nat → Nat → Int32} {v x : Int32} (hr : r < 16) (hv : v = 0 ∨ v = 1) : sX2_setRoot n ad f g (nI r) v x = some (f, ur (ur g 0 (upd (g 0) r v)) 1 (upd (g 1) r x)) := by
  unfold sX2_setRoot
  rw [wt_n hr (by omega), wt_n hr (by omega), vn hv, nI_clamp (by omega)]
theorem PR.root {n c u o sc lg tk r : Nat} {f fm : Nat → Int32} {g gm : Nat → Nat → Int32} {v x w : Int32} (h : PR n c u o sc lg tk n f g fm gm) (hv : v = 0 ∨ (v = 1 ∧ ∃ t z, x = nI t ∧ hc g u t z)) : PR n c u o sc lg tk n f (ur (ur g 0 (upd (g 0) r v)) 1 (upd (g 1) r x)) (upd fm 0 w) (ur (ur gm 4 (upd (gm 4) r v)) 5 (upd (gm 5) r x)) := by
  obtain ⟨iS, iU, iH, iO, iR, iG, iL, rS, ra0, ra1, ra2, rc, ro, rr, rl⟩ := h
  refine ⟨iS, iU, iH, iO, iR, ?_, iL, rS, ra0, ra1, ra2, rc, ro, ?_, rl⟩
  · intro j hj
    rw [ur_n (by decide), ur_s, ur_s]
    by_cases e : j = r
    · rw [e, upd_s, upd_s]
      exact hv
    · rw [upd_n e, upd_n e]
      exact iG j hj
  · intro j hj
    rw [ur_n (by decide), ur_s, ur_s, ur_n (by decide), ur_s, ur_s]
    by_cases e : j = r
    · rw [e, upd_s, upd_s, upd_s, upd_s]
      exact ⟨rfl, rfl⟩
    · rw [upd_n e, upd_n e, upd_n e, upd_n e]
      exact rr j hj
theorem ST.root {n c u o sc lg tk r : Nat} {f fm : Nat → Int32} {g gm : Nat → Nat → Int32} {v x w : Int32} (h : ST n c u o sc lg tk f g fm gm) (hv : v = 0 ∨ (v = 1 ∧ ∃ t z, x = nI t ∧ hc g u t z)) : ST n c u o sc lg tk f (ur (ur g 0 (upd (g 0) r v)) 1 (upd (g 1) r x)) (upd fm 0 w) (ur (ur gm 4 (upd (gm 4) r v)) 5 (upd (gm 5) r x)) := ⟨h.1.root hv, h.2.1, h.2.2.1, h.2.2.2⟩
set_option maxHeartbeats 1000000 in
theorem field_cases {n c u o sc lg tk r : Nat} {ad : Nat → Nat} {f fm : Nat → Int32} {g gm : Nat → Nat → Int32} (h : PR n c u o sc lg tk n f g fm gm) (hr : r < 16) (p2 : Int32) :
    (∃ t z j, g 0 r = 1 ∧ g 1 r = nI t ∧ hc g u t z ∧ p2 = nI j ∧ j < z ∧ (t + 1 + j < u ∧ u ≤ n ∧ n ≤ 400 ∧ c ≤ 1) ∧ (g 4 (t + 1 + j) = 0 ∨ (g 4 (t + 1 + j) = nI (1 + c) ∧ ∃ t' z', g 5 (t + 1 + j) = nI t' ∧ hc g u t' z')) ∧ sX2_hasField n ad f g (nI r) p2 = some 1 ∧ sX3_hasField fm gm (nI r) p2 = some 1) ∨ (sX2_hasField n ad f g (nI r) p2 = some 0 ∧ sX3_hasField fm gm (nI r) p2 = some 0) := by
  obtain ⟨⟨⟨hn1, hn2, hc1, hun, htk1, hlg⟩, f0, f12, f14, f13, f15, f10, f11⟩, iU, iH, iO, iR, iG, iL, ⟨s1, s2, s3, s4, s5, s6, s7, s8, s9, s10⟩, ra0, ra1, ra2, rc, ro, rr, rl⟩ := h
  have m3 : fm 3 = nI c := s3.trans f12
  obtain ⟨r0, r1⟩ := rr r hr
  rcases iG r hr with a | ⟨a, t, z, b1, b2⟩
  · refine Or.inr ⟨?_, ?_⟩
    · unfold sX2_hasField
      rw [rd_n hr (by omega), a, if_pos rfl]
    · unfold sX3_hasField
      rw [rd_n hr (by omega), r0, a, if_pos rfl]
  · obtain ⟨hpu, h4, h5, hz1, hz8⟩ := id b2
    have htn : t < n := by omega
    by_cases h2 : p2 < 0
    · refine Or.inr ⟨?_, ?_⟩
      · unfold sX2_hasField
        rw [rd_n hr (by omega), a, if_neg i10, if_pos h2]
      · unfold sX3_hasField
        rw [rd_n hr (by omega), r0, a, if_neg i10, if_pos h2]
    · obtain ⟨j, hj, rfl⟩ := nI_of h2
      by_cases hz : z ≤ j
      · have hle : nI z ≤ nI j := nI_le hz hj
        refine Or.inr ⟨?_, ?_⟩
        · unfold sX2_hasField
          rw [rd_n hr (by omega), a, if_neg i10, if_neg h2, rd_n hr (by omega), b1, rd_n htn (by omega), h5, if_pos hle]
        · unfold sX3_hasField
          rw [rd_n hr (by omega), r0, a, if_neg i10, if_neg h2, rd_n hr (by omega), r0, a, if_neg i10, rd_n hr (by omega), r1, b1]
          unfold sX3_hasField_41
          rw [m3, at_s, bR_s, rd_n (by omega) (by omega), (ra1 t htn).1, h5, if_pos hle]
      · have hle : ¬ nI z ≤ nI j := fun q => hz ((nI_leI (by omega) hj).mp q)
        obtain ⟨z', hz', hfol⟩ := (iH t (by omega)).1 h4
        have ez : z = z' := hz'.same h5 (by omega)
        subst ez
        refine Or.inl ⟨t, z, j, a, b1, b2, rfl, by omega, ⟨by omega, hun, hn2, hc1⟩, ?_, ?_, ?_⟩
        · rcases (iH (t + 1 + j) (by omega)).2 with q | q | q
          · exact absurd q (hfol _ (by omega) (by omega))
          · exact Or.inl q
          · exact Or.inr q
        · unfold sX2_hasField
          rw [rd_n hr (by omega), a, if_neg i10, if_neg h2, rd_n hr (by omega), b1, rd_n htn (by omega), h5, if_neg hle]
        · unfold sX3_hasField
          rw [rd_n hr (by omega), r0, a, if_neg i10, if_neg h2, rd_n hr (by omega), r0, a, if_neg i10, rd_n hr (by omega), r1, b1]
          unfold sX3_hasField_41
          rw [m3, at_s, bR_s, rd_n (by omega) (by omega), (ra1 t htn).1, h5, if_neg hle]
theorem pu_number_h : pu_number RELH := by
  intro n k ad f g fm gm p1 p2 hk hR
  rcases root_cases p1 with ⟨r, hr, rfl, i2, i3⟩ | ⟨i2, i3⟩
  · obtain ⟨c, u, o, sc, lg, tk, h, hl, rest⟩ := hR
    refine ⟨1, f, _, upd fm 0 0, _, ?_, ?_, c, u, o, sc, lg, tk, h.root (r := r) (v := 0) (x := p2) (w := 0) (Or.inl rfl), by omega, rest⟩
    · unfold sX2_number
      rw [i2, bR_s, if_neg i10, set_s hr (Or.inl rfl), bWv_s]
    · unfold sX3_number
      rw [i3, bR_s, if_neg i10, wt_n hr (by omega), wt_n hr (by omega), vn0, nI_clamp (by omega)]
  · refine ⟨0, f, g, upd fm 0 0, gm, ?_, ?_, rel_0 hR⟩
    · unfold sX2_number
      rw [i2, bR_s, if_pos rfl]
    · unfold sX3_number
      rw [i3, bR_s, if_pos rfl]
theorem pu_move_h : pu_move RELH := by
  intro n k ad f g fm gm p1 p2 hk hR
  rcases root_cases p1 with ⟨r, hr, rfl, i2, i3⟩ | ⟨i2, i3⟩
  · rcases root_cases p2 with ⟨r2, hr2, rfl, j2, j3⟩ | ⟨j2, j3⟩
    · obtain ⟨c, u, o, sc, lg, tk, h, hl, rest⟩ := hR
      have hv := h.1.2.2.2.2.2.1 r2 hr2
      have hv2 : g 0 r2 = 0 ∨ g 0 r2 = 1 := hv.imp_right And.left
      obtain ⟨e0, e1⟩ := h.1.2.2.2.2.2.2.2.2.2.2.2.2.2.1 r2 hr2
      refine ⟨1, f, _, upd fm 0 0, _, ?_, ?_, c, u, o, sc, lg, tk, h.root (r := r) (v := g 0 r2) (x := g 1 r2) (w := 0) hv, by omega, rest⟩
      · unfold sX2_move
        rw [i2, bR_s, if_neg i10, j2, bR_s, if_neg i10, rd_n hr2 (by omega), rd_n hr2 (by omega), set_s hr hv2, bWv_s]
      · unfold sX3_move
        rw [i3, bR_s, if_neg i10, j3, bR_s, if_neg i10, rd_n hr2 (by omega), wt_n hr (by omega), rd_n hr2 (by omega), wt_n hr (by omega), e0, e1, vn hv2, nI_clamp (by omega)]
    · refine ⟨0, f, g, upd fm 0 0, gm, ?_, ?_, rel_0 hR⟩
      · unfold sX2_move
        rw [i2, bR_s, if_neg i10, j2, bR_s, if_pos rfl]
      · unfold sX3_move
        rw [i3, bR_s, if_neg i10, j3, bR_s, if_pos rfl]
  · refine ⟨0, f, g, upd fm 0 0, gm, ?_, ?_, rel_0 hR⟩
    · unfold sX2_move
      rw [i2, bR_s, if_pos rfl]
    · unfold sX3_move
      rw [i3, bR_s, if_pos rfl]
theorem get_no {f : Nat → Int32} {g : Nat → Nat → Int32} {a b d w : Int32} (hw : ¬ w ≤ 0) : sX3_get_33 f g a b d w = some (upd f 0 w, g) := by
  unfold sX3_get_33
  rw [if_neg hw]
set_option maxHeartbeats 1000000 in
theorem pu_get_h : pu_get RELH := by
  intro n k ad f g fm gm p1 p2 p3 hk hR
  rcases root_cases p1 with ⟨r, hr, rfl, i2, i3⟩ | ⟨i2, i3⟩
  · rcases root_cases p2 with ⟨r2, hr2, rfl, j2, j3⟩ | ⟨j2, j3⟩
    · have hR0 := hR
      obtain ⟨c, u, o, sc, lg, tk, h, hl, rest⟩ := hR
      rcases field_cases (ad := ad) h.1 hr2 p3 with ⟨t, z, j, a0, a1, b2, rfl, hj, ⟨hb, hun, hn2, hc1⟩, hk4, q2, q3⟩ | ⟨q2, q3⟩
      · obtain ⟨e0, e1⟩ := h.1.2.2.2.2.2.2.2.2.2.2.2.2.2.1 r2 hr2
        have m3 : fm 3 = nI c := h.1.2.2.2.2.2.2.2.1.2.2.1.trans h.1.1.2.2.1
        have g4 := (h.1.2.2.2.2.2.2.2.2.1 (t + 1 + j) (by omega)).1
        have g5 := (h.1.2.2.2.2.2.2.2.2.2.1 (t + 1 + j) (by omega)).1
        have ei : nI t + 1 + nI j = nI (t + 1 + j) := by rw [nI_1, nI_add]
        have em : nI (400 * c + t) + 1 + nI j = nI (400 * c + (t + 1 + j)) := by rw [nI_1, nI_add, show 400 * c + t + 1 + j = 400 * c + (t + 1 + j) by omega]
        obtain ⟨v, hv, hv2⟩ : ∃ v : Int32, ((g 4 (t + 1 + j) = 0 ∧ v = 0) ∨ (¬ g 4 (t + 1 + j) = 0 ∧ v = 1)) ∧ (v = 0 ∨ (v = 1 ∧ ∃ t' z', g 5 (t + 1 + j) = nI t' ∧ hc g u t' z')) := by
          rcases hk4 with q | ⟨q, w⟩
          · exact ⟨0, Or.inl ⟨q, rfl⟩, Or.inl rfl⟩
          · exact ⟨1, Or.inr ⟨by rw [q]; exact (nI3_ne hc1).2.2.1.symm, rfl⟩, Or.inr ⟨rfl, w⟩⟩
        have hv3 : v = 0 ∨ v = 1 := hv2.imp_right And.left
        refine ⟨0, f, _, upd fm 0 0, _, ?_, ?_, rfl, c, u, o, sc, lg, tk, h.root (r := r) (v := v) (x := g 5 (t + 1 + j)) (w := 0) hv2, by omega, rest⟩
        · unfold sX2_get
          rw [i2, bR_s, if_neg i10, j2, bR_s, if_neg i10, q2, bR_s, if_neg i10, rd_n hr2 (by omega), a1, ei, rd_n (by omega) (by omega)]
          unfold sX2_get_71
          rw [rd_n (by omega) (by omega)]
          rcases hv with ⟨q, rfl⟩ | ⟨q, rfl⟩
          · rw [if_pos q, set_s hr hv3, bWv_s]
          · rw [if_neg q, rd_n (by omega) (by omega), set_s hr hv3, bWv_s]
        · unfold sX3_get
          rw [i3, bR_s, if_neg i10, j3, bR_s, if_neg i10, q3, bR_s, if_neg i10]
          unfold sX3_get_33
          rw [if_pos i0le0, rd_n hr2 (by omega), e1, a1, m3, at_s, bR_s, em, rd_n (by omega) (by omega), g4]
          unfold sX3_get_83
          rw [wt_n hr (by omega), rd_n (by omega) (by omega), wt_n hr (by omega), g5]
          rcases hv with ⟨q, rfl⟩ | ⟨q, rfl⟩
          · rw [if_pos q, vn0, nI_clamp (by omega)]
          · rw [if_neg q, wt_n hr (by omega), rd_n (by omega) (by omega), wt_n hr (by omega), g5, vn1, nI_clamp (by omega)]
      · refine ⟨2, f, g, upd fm 0 2, gm, ?_, ?_, rfl, rel_0 hR0⟩
        · unfold sX2_get
          rw [i2, bR_s, if_neg i10, j2, bR_s, if_neg i10, q2, bR_s, if_pos rfl]
        · unfold sX3_get
          rw [i3, bR_s, if_neg i10, j3, bR_s, if_neg i10, q3, bR_s, if_pos rfl, get_no (by decide)]
    · refine ⟨1, f, g, upd fm 0 1, gm, ?_, ?_, rfl, rel_0 hR⟩
      · unfold sX2_get
        rw [i2, bR_s, if_neg i10, j2, bR_s, if_pos rfl]
      · unfold sX3_get
        rw [i3, bR_s, if_neg i10, j3, bR_s, if_pos rfl]
        exact get_no (by decide)
  · refine ⟨1, f, g, upd fm 0 1, gm, ?_, ?_, rfl, rel_0 hR⟩
    · unfold sX2_get
      rw [i2, bR_s, if_pos rfl]
    · unfold sX3_get
      rw [i3, bR_s, if_pos rfl]
      exact get_no (by decide)
