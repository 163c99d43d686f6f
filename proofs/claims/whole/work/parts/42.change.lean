/-- a field of the current space is written on both sides -/
theorem putC_hc {c u q : Nat} {g : Nat → Nat → Int32} {kx vx : Int32} (hn3 : g 4 q ≠ 3) (hk3 : kx ≠ 3) (t z : Nat) : hc (ur (ur g 4 (upd (g 4) q kx)) 5 (upd (g 5) q vx)) u t z ↔ hc g u t z := by
  have e4 : ∀ j, (ur (ur g 4 (upd (g 4) q kx)) 5 (upd (g 5) q vx)) 4 j = upd (g 4) q kx j := fun j => by rw [ur_n (by decide), ur_s]
  have e5 : ∀ j, (ur (ur g 4 (upd (g 4) q kx)) 5 (upd (g 5) q vx)) 5 j = upd (g 5) q vx j := fun j => by rw [ur_s]
  by_cases e : t = q
  · subst e
    refine ⟨fun h => absurd h.2.1 ?_, fun h => absurd h.2.1 hn3⟩
    rw [e4, upd_s]
    exact hk3
  · refine ⟨fun h => h.ext (Nat.le_refl _) ?_ ?_, fun h => h.ext (Nat.le_refl _) ?_ ?_⟩
    · rw [e4, upd_n e]
    · rw [e5, upd_n e]
    · rw [e4, upd_n e]
    · rw [e5, upd_n e]
set_option maxHeartbeats 1000000 in
theorem putC_pr {n c u o sc lg tk q : Nat} {f fm : Nat → Int32} {g gm : Nat → Nat → Int32} {kx vx : Int32} (h : PR n c u o sc lg tk n f g fm gm) (hq : q < u) (hn3 : g 4 q ≠ 3)
    (hv : kx = 0 ∨ (kx = nI (1 + c) ∧ ∃ t z, vx = nI t ∧ hc g u t z)) :
    PR n c u o sc lg tk n f (ur (ur g 4 (upd (g 4) q kx)) 5 (upd (g 5) q vx)) fm (ur (ur gm 0 (upd (gm 0) (400 * c + q) kx)) 1 (upd (gm 1) (400 * c + q) vx)) := by
  obtain ⟨iS, iU, iH, iO, iR, iG, iL, rS, ra0, ra1, ra2, rc, ro, rr, rl⟩ := h
  obtain ⟨hn1, hn2, hc1, hun, htk1, hlg⟩ := iS.1
  have hk3 : kx ≠ 3 := by
    rcases hv with hv | ⟨hv, -⟩
    · rw [hv]; decide
    · rw [hv]; exact (nI3_ne hc1).1.symm
  have hC := putC_hc (c := c) (u := u) (vx := vx) hn3 hk3
  have e4 : ∀ j, (ur (ur g 4 (upd (g 4) q kx)) 5 (upd (g 5) q vx)) 4 j = upd (g 4) q kx j := fun j => by rw [ur_n (by decide), ur_s]
  have e5 : ∀ j, (ur (ur g 4 (upd (g 4) q kx)) 5 (upd (g 5) q vx)) 5 j = upd (g 5) q vx j := fun j => by rw [ur_s]
  refine ⟨iS, ⟨?_, iU.2⟩, ?_, ?_, ?_, ?_, ?_, rS, ra0.updC hn2 hc1 (by omega), ra1.updC hn2 hc1 (by omega), ra2, rc, ro, rr, rl⟩
  · rw [sm_ext (v := wC g) (fun p _ => ?_)]
    · exact iU.1
    · by_cases e : p = q
      · subst e
        rw [wC_no (fun q => hn3 q.1), wC_no (fun q => hk3 (by rw [← q.1, e4, upd_s]))]
      · unfold wC
        rw [e4, e5, upd_n e, upd_n e]
        rfl
  · intro p hp
    obtain ⟨a1, a2⟩ := iH p hp
    rw [e4, e5]
    by_cases e : p = q
    · subst e
      rw [upd_s, upd_s]
      refine ⟨fun h => absurd h hk3, ?_⟩
      rcases hv with hv | ⟨hv, tr, z, b1, b2⟩
      · exact Or.inr (Or.inl hv)
      · exact Or.inr (Or.inr ⟨hv, tr, z, b1, (hC _ _).mpr b2⟩)
    · rw [upd_n e, upd_n e]
      refine ⟨fun h => ?_, ?_⟩
      · obtain ⟨z, b1, b2⟩ := a1 h
        refine ⟨z, (hC _ _).mpr b1, fun j h1 h2 => ?_⟩
        rw [e4]
        by_cases ej : j = q
        · subst ej; rw [upd_s]; exact hk3
        · rw [upd_n ej]; exact b2 j h1 h2
      · rcases a2 with a2 | a2 | ⟨a2, t, z2, b1, b2⟩
        · exact Or.inl a2
        · exact Or.inr (Or.inl a2)
        · exact Or.inr (Or.inr ⟨a2, t, z2, b1, (hC _ _).mpr b2⟩)
  · intro p hp
    obtain ⟨a1, a2⟩ := iO p hp
    refine ⟨a1, fun hne => ?_⟩
    rcases a2 hne with a2 | a2 | a2 | ⟨a0, a2, t, z, b1, b2⟩
    · exact Or.inl a2
    · exact Or.inr (Or.inl a2)
    · exact Or.inr (Or.inr (Or.inl a2))
    · exact Or.inr (Or.inr (Or.inr ⟨a0, a2, t, z, b1, (hC _ _).mpr b2⟩))
  · intro p z hp
    exact iR p z ((hC _ _).mp hp)
  · intro r hr
    rcases iG r hr with a | ⟨a, t, z, b1, b2⟩
    · exact Or.inl a
    · exact Or.inr ⟨a, t, z, b1, (hC _ _).mpr b2⟩
  · intro i hi
    obtain ⟨p, z, j, b1, b2, b3⟩ := iL i hi
    exact ⟨p, z, j, b1, (hC _ _).mpr b2, b3⟩
theorem ST.putC {n c u o sc lg tk q : Nat} {f fm : Nat → Int32} {g gm : Nat → Nat → Int32} {kx vx : Int32} (h : ST n c u o sc lg tk f g fm gm) (hq : q < u) (hn3 : g 4 q ≠ 3)
    (hv : kx = 0 ∨ (kx = nI (1 + c) ∧ ∃ t z, vx = nI t ∧ hc g u t z)) :
    ST n c u o sc lg tk f (ur (ur g 4 (upd (g 4) q kx)) 5 (upd (g 5) q vx)) fm (ur (ur gm 0 (upd (gm 0) (400 * c + q) kx)) 1 (upd (gm 1) (400 * c + q) vx)) := by
  have hc1 := h.1.1.1.2.2.1
  have hk3 : kx ≠ 3 := by
    rcases hv with hv | ⟨hv, -⟩
    · rw [hv]; decide
    · rw [hv]; exact (nI3_ne hc1).1.symm
  refine ⟨putC_pr h.1 hq hn3 hv, h.2.1, h.2.2.1, ?_⟩
  rcases h.2.2.2 with a | ⟨a, b1, b2, b3, b4, b5⟩
  · exact Or.inl a
  · exact Or.inr ⟨a, b1, b2, b3, b4, fun p z hp => b5 p z ((putC_hc (c := c) hn3 hk3 p z).mp hp)⟩
theorem PR.log {n c u o sc lg tk t z j : Nat} {f fm : Nat → Int32} {g gm : Nat → Nat → Int32} (h : PR n c u o sc lg tk n f g fm gm) (hlg : lg < 512) (ht : hc g u t z) (hj : j < z) :
    PR n c u o sc (lg + 1) tk n (upd f 10 (nI (lg + 1))) (ur (ur g 2 (upd (g 2) lg (nI t))) 3 (upd (g 3) lg (nI j))) (upd fm 6 (nI (lg + 1))) (ur (ur gm 6 (upd (gm 6) lg (nI t))) 7 (upd (gm 7) lg (nI j))) := by
  obtain ⟨⟨⟨hn1, hn2, hc1, hun, htk1, hlg1⟩, f0, f12, f14, f13, f15, f10, f11⟩, iU, iH, iO, iR, iG, iL, ⟨s1, s2, s3, s4, s5, s6, s7, s8, s9, s10⟩, ra0, ra1, ra2, rc, ro, rr, rl⟩ := h
  refine ⟨⟨⟨hn1, hn2, hc1, hun, by omega, by omega⟩, f0, f12, f14, f13, f15, rfl, f11⟩, iU, iH, iO, iR, iG, ?_, ⟨s1, s2, s3, s4, s5, rfl, s7, s8, s9, s10⟩, ra0, ra1, ra2, rc, ro, rr, ?_⟩
  · intro i hi
    rw [ur_n (by decide), ur_s, ur_s]
    by_cases e : i = lg
    · rw [e, upd_s, upd_s]
      exact ⟨t, z, j, rfl, ht, rfl, hj⟩
    · rw [upd_n e, upd_n e]
      exact iL i (by omega)
  · intro i hi
    rw [ur_n (by decide), ur_s, ur_s, ur_n (by decide), ur_s, ur_s]
    by_cases e : i = lg
    · rw [e, upd_s, upd_s, upd_s, upd_s]
      exact ⟨rfl, rfl⟩
    · rw [upd_n e, upd_n e, upd_n e, upd_n e]
      exact rl i (by omega)
theorem setC_s {n q : Nat} {ad : Nat → Nat} {f : Nat → Int32} {g : Nat → Nat → Int32} {kx vx : Int32} (hq : q < n) (hn : n ≤ 400) : sX1_setCellC n ad f g (nI q) kx vx = some (f, ur (ur g 4 (upd (g 4) q kx)) 5 (upd (g 5) q vx)) := by
  unfold sX1_setCellC
  rw [wt_n hq (by omega), wt_n hq (by omega), nI_clamp (by omega)]
set_option maxHeartbeats 1000000 in
theorem change_op {n c u o sc lg tk r t z j q : Nat} {f fm : Nat → Int32} {g gm : Nat → Nat → Int32} {ad : Nat → Nat} {kx vx : Int32} (h : ST n c u o sc lg tk f g fm gm) (hlg : lg < 512) (r10 : fm 10 = f 7) (r11 : fm 11 = f 9) (r9 : ¬ f 9 < 0) (hq1 : f 1 = nI q) (hq2 : q ≤ 64) (hr : r < 16) (a1 : g 1 r = nI t) (b2 : hc g u t z) (hj : j < z)
    (hk4 : g 4 (t + 1 + j) = 0 ∨ (g 4 (t + 1 + j) = nI (1 + c) ∧ ∃ t' z', g 5 (t + 1 + j) = nI t' ∧ hc g u t' z')) (hv : kx = 0 ∨ (kx = nI (1 + c) ∧ ∃ t z, vx = nI t ∧ hc g u t z)) :
    ∃ ad' f' g' fm' gm' c' u' o' sc' lg' tk', sX2_change n ad f g (nI t) (nI j) kx vx = some (ad', f', g') ∧ sX3_change fm gm (nI r) (nI j) kx vx = some (fm', gm') ∧ ST n c' u' o' sc' lg' tk' f' g' fm' gm' ∧ fm' 10 = f' 7 ∧ fm' 11 = f' 9 ∧ ¬ f' 9 < 0 ∧ f' 1 = f 1 ∧ fm' 0 = fm 0 ∧ lg' ≤ lg + 1 := by
  obtain ⟨hn1, hn2, hc1, hun, htk1, hlg1⟩ := h.1.1.1
  have f10 : f 10 = nI lg := h.1.1.2.2.2.2.2.2.1
  have f12 : f 12 = nI c := h.1.1.2.2.1
  obtain ⟨s1, s2, s3, s4, s5, s6, s7, s8, s9, s10⟩ := h.1.2.2.2.2.2.2.2.1
  have m3 : fm 3 = nI c := s3.trans f12
  have e1 : gm 5 r = nI t := (h.1.2.2.2.2.2.2.2.2.2.2.2.2.2.1 r hr).2.trans a1
  have hb := b2.1
  have hn3 : g 4 (t + 1 + j) ≠ 3 := by
    rcases hk4 with q | ⟨q, -⟩
    · rw [q]; decide
    · rw [q]; exact (nI3_ne hc1).1.symm
  have hk3 : kx ≠ 3 := by
    rcases hv with hv | ⟨hv, -⟩
    · rw [hv]; decide
    · rw [hv]; exact (nI3_ne hc1).1.symm
  have ei : nI t + 1 + nI j = nI (t + 1 + j) := by rw [nI_1, nI_add]
  have em : nI (400 * c + t) + 1 + nI j = nI (400 * c + (t + 1 + j)) := by rw [nI_1, nI_add, show 400 * c + t + 1 + j = 400 * c + (t + 1 + j) by omega]
  have S1 := h.putC (q := t + 1 + j) (by omega) hn3 hv
  have b2' := (putC_hc (c := c) (vx := vx) hn3 hk3 t z).mpr b2
  rcases h.2.2.2 with h2 | ⟨h2, hid⟩
  · have n2 : ¬ f 2 = 0 := by rw [h2]; decide
    have n4 : ¬ fm 4 = 0 := by rw [s4]; exact n2
    have P2 := S1.1.log hlg b2' hj
    have S2 : ST n c u o sc (lg + 1) tk (upd (upd f 8 0) 10 (nI (lg + 1))) _ (upd (upd fm 13 (fm 10)) 6 (nI (lg + 1))) _ := ⟨P2, h.2.1, h.2.2.1, Or.inl h2⟩
    have O1 : OP (f 9) 0 (upd (upd f 8 0) 10 (nI (lg + 1))) (upd (upd fm 13 (fm 10)) 6 (nI (lg + 1))) := open_op r10 r11 r9
    obtain ⟨e, ad', f', g', fm', gm', c', u', o', sc', lg', tk', w1, w2, S3, O2, ⟨k1, k0, kl⟩, -, he⟩ := work_op (ad := ad) (v1 := nI q) (vm := nI q) (Or.inl ⟨rfl, nI_pos (by omega)⟩) S2 O1 (by omega)
    rw [Nat.zero_add] at O2
    refine ⟨ad', f', g', upd fm' 11 (f' 9), gm', c', u', o', sc', lg', tk', ?_, ?_, S3, O2.2.2.2.1, rfl, ?_, k1, k0, kl⟩
    · unfold sX2_change
      rw [ei, setC_s (by omega) hn2, bWv_s, if_neg n2]
      unfold sX0_add
      rw [show (upd f 8 0) 10 = nI lg from f10, if_pos (show nI lg < 512 from nI_lt (b := 512) hlg (by decide))]
      unfold sX0_add_14
      rw [show (upd f 8 0) 10 = nI lg from f10, wt_n hlg (by omega), wt_n hlg (by omega), lt_s', bWv_s, nI_clamp (by omega), nI_1, show (upd (upd f 8 0) 10 (nI (lg + 1))) 1 = nI q from hq1]
      rw [w1, bFv_s]
    · unfold sX3_change
      rw [rd_n hr (by omega), e1, m3, at_s, bR_s, em, wt_n (by omega) (by omega), wt_n (by omega) (by omega), if_neg n4, nI_clamp (by omega)]
      unfold sX3_open
      rw [bWv_s, show ∀ a b, (ur (ur gm 0 a) 1 b) 5 = gm 5 from fun _ _ => rfl, rd_n hr (by omega), e1, show (upd fm 13 (fm 10)) 6 = nI lg from s6.trans f10, wt_n (by omega) (by omega), wt_n (by omega) (by omega), lt_s', nI_clamp (by omega), nI_1, show (upd fm 13 (fm 10)) 2 = nI q from s2.trans hq1, w2, bWi_s, close_op O2, bWv_s]
    · rw [O2.2.1]; exact mx_nn r9 (by omega)
  · refine ⟨ad, f, _, fm, _, c, u, o, sc, lg, tk, ?_, ?_, S1, r10, r11, r9, rfl, rfl, by omega⟩
    · unfold sX2_change
      rw [ei, setC_s (by omega) hn2, bWv_s, if_pos h2]
    · unfold sX3_change
      rw [rd_n hr (by omega), e1, m3, at_s, bR_s, em, wt_n (by omega) (by omega), wt_n (by omega) (by omega), if_pos (s4.trans h2), nI_clamp (by omega)]
