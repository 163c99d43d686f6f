theorem PR.tk1 {n c u o sc lg tk q : Nat} {f fm : Nat → Int32} {g gm : Nat → Nat → Int32} (h : PR n c u o sc lg tk q f g fm gm) (ht : tk < lg) : PR n c u o sc lg (tk + 1) q (upd f 11 (nI (tk + 1))) g (upd fm 7 (nI (tk + 1))) gm := by
  obtain ⟨⟨⟨hn1, hn2, hc1, hun, htk, hlg⟩, f0, f12, f14, f13, f15, f10, f11⟩, iU, iH, iO, iR, iG, iL, ⟨s1, s2, s3, s4, s5, s6, s7, s8, s9, s10⟩, rG⟩ := h
  exact ⟨⟨⟨hn1, hn2, hc1, hun, by omega, hlg⟩, f0, f12, f14, f13, f15, f10, rfl⟩, iU, iH, iO, iR, iG, iL, ⟨s1, s2, s3, s4, s5, s6, rfl, s8, s9, s10⟩, rG⟩
set_option maxHeartbeats 1000000 in
theorem take_step {n c u o sc lg tk : Nat} {f fm : Nat → Int32} {g gm : Nat → Nat → Int32} {ad : Nat → Nat} (h : PR n c u o sc lg tk n f g fm gm) (hsc : sc ≤ o) (htk : tk < lg) :
    ∃ rr o' f' g' fm' gm', sX2_takeEntry n ad f g = some (nI rr, f', g') ∧ sX3_take fm gm = some (nI rr, fm', gm') ∧ PR n c u o' sc lg (tk + 1) n f' g' fm' gm' ∧ (∀ k, k ≠ 11 → k ≠ 15 → f' k = f k) ∧ (∀ k, k ≠ 7 → fm' k = fm k) ∧ o ≤ o' ∧ o' + sm (wC g') u = o + sm (wC g) u ∧ sm (wC g) u + 1 = rr + sm (wC g') u := by
  have P1 := h.tk1 htk
  obtain ⟨⟨⟨hn1, hn2, hc1, hun, htk1, hlg⟩, f0, f12, f14, f13, f15, f10, f11⟩, iU, iH, iO, iR, iG, iL, rS, ra0, ra1, ra2, rc, ro, rr, rl⟩ := h
  have m3 : fm 3 = nI c := rS.2.2.1.trans f12
  have m7 : fm 7 = nI tk := rS.2.2.2.2.2.2.1.trans f11
  have hlen : o ≤ n := by have := iU.1; omega
  obtain ⟨p, z, j, g2, hp, g3, hj⟩ := iL tk htk
  obtain ⟨hpu, h4, h5, hz1, hz8⟩ := id hp
  have gm6 : gm 6 tk = nI p := (rl tk htk).1.trans g2
  have gm7 : gm 7 tk = nI j := (rl tk htk).2.trans g3
  have hu3 : (upd fm 7 (nI (tk + 1))) 3 = nI c := m3
  by_cases h6 : g 6 p = -1
  · refine ⟨1, o, _, g, _, gm, ?_, ?_, P1, fun k h1 h2 => upd_n h1, fun k h1 => upd_n h1, Nat.le_refl _, rfl, by omega⟩
    · unfold sX2_takeEntry
      rw [f11, rd_n (by omega) (by omega), rd_n (by omega) (by omega), lt_s', g2, rd_n (by omega) (by omega), if_pos h6, nI_1]
      rfl
    · unfold sX3_take
      rw [m7, rd_n (by omega) (by omega), rd_n (by omega) (by omega), lt_s', gm6, m3, at_s, bR_s, rd_n (by omega) (by omega), (ra2 p (by omega)).1, if_pos h6, nI_1]
      rfl
  · obtain ⟨tr, b1, b2⟩ : ∃ tr, g 6 p = nI tr ∧ ho g o tr z := by
      rcases iR p z hp with a | a
      · exact absurd a h6
      · exact a
    have htr := b2.1
    have ea : 400 * c + p + 1 + j = 400 * c + (p + (1 + j)) := by omega
    have eb : 400 * (1 - c) + tr + 1 + j = 400 * (1 - c) + (tr + (1 + j)) := by omega
    obtain ⟨z2, hz2, hfol⟩ := (iH p (by omega)).1 h4
    have ez : z = z2 := hz2.same h5 (by omega)
    subst ez
    obtain ⟨-, z3, hz3, hfolO⟩ := (iO tr (by omega)).1 b2.2.1
    have ez3 : z3 = z := nI_inj (by have := hz3.2.2.2.2; omega) (by omega) (hz3.2.2.1.symm.trans b2.2.2.1)
    subst ez3
    have hq : tr + (1 + j) < o := by omega
    have hn3 : g 7 (tr + (1 + j)) ≠ 3 := hfolO _ (by omega) (by omega)
    have hf3 : g 4 (p + (1 + j)) ≠ 3 := hfol _ (by omega) (by omega)
    have C1 : ∀ {kx vx : Int32}, g 4 (p + (1 + j)) = kx → g 5 (p + (1 + j)) = vx → sX2_takeEntry n ad f g = bWi (sX2_forward n ad (upd f 11 (nI (tk + 1))) (ur (ur g 7 (upd (g 7) (tr + (1 + j)) kx)) 8 (upd (g 8) (tr + (1 + j)) vx)) (nI (tr + (1 + j)))) (fun r f g => some (1 + r, f, g)) := by
      intro kx vx ek ev
      unfold sX2_takeEntry
      rw [f11, rd_n (by omega) (by omega), rd_n (by omega) (by omega), lt_s', g2, g3, rd_n (by omega) (by omega), if_neg h6, b1, nI_a1, nI_add, nI_add, rd_n (by omega) (by omega), rd_n (by omega) (by omega), ek, ev, nI_1, setO_s (by omega) hn2, bWv_s]
    rcases (iH (p + (1 + j)) (by omega)).2 with a2 | a2 | ⟨a2, t, zt, a5, ht⟩
    · exact absurd a2 hf3
    · have P2 := mendO (kx := 0) (vx := g 5 (p + (1 + j))) (P1.ex (q := tr + (1 + j))) hq hn3 (Or.inl rfl)
      refine ⟨1, o, _, _, _, _, ?_, ?_, P2, fun k h1 h2 => upd_n h1, fun k h1 => upd_n h1, Nat.le_refl _, rfl, by show _ = 1 + sm (wC g) u; omega⟩
      · rw [C1 a2 rfl]
        unfold sX2_forward
        rw [rd_n (by omega) (by omega), ur_n (by decide), ur_s, upd_s, show upd f 11 (nI (tk + 1)) 12 = f 12 from rfl, f12, nI_a1, if_neg (nI3_ne hc1).2.2.1, bWi_s]
        rfl
      · unfold sX3_take
        rw [m7, rd_n (by omega) (by omega), rd_n (by omega) (by omega), lt_s', gm6, gm7, m3, at_s, bR_s, rd_n (by omega) (by omega), (ra2 p (by omega)).1, if_neg h6, nI_1, oth_s hc1 hu3, bR_s, rd_n (by omega) (by omega), (ra2 p (by omega)).1, b1, at_s, bR_s, nI_1, nI_add, nI_1, nI_add, ea, eb, rd_n (by omega) (by omega), (ra0 _ (by omega)).1, a2, if_pos rfl, wt_n (by omega) (by omega), rd_n (by omega) (by omega), (ra1 _ (by omega)).1, wt_n (by omega) (by omega), nI_clamp (by omega)]
        rfl
    · have P2 := offO (kx := nI (1 + c)) (vx := nI t) (P1.ex (q := tr + (1 + j))) hq hn3 (nI3_ne hc1).1.symm
      obtain ⟨r, o', f', g', gm', e1, e2, P3, k1, k2, k3, k4, k5⟩ := fwd_step (ad := ad) (t := t) (z := zt) P2 hsc hq (by rw [ur_n (by decide), ur_s, upd_s]) (by rw [ur_s, upd_s]) ht
      refine ⟨1 + r, o', f', g', _, gm', ?_, ?_, P3, fun k h1 h2 => (k1 k h2).trans (upd_n h1), fun k h1 => upd_n h1, k3, k4, ?_⟩
      · rw [C1 a2 a5, e1, bWi_s, nI_a1]
      · unfold sX3_take
        rw [m7, rd_n (by omega) (by omega), rd_n (by omega) (by omega), lt_s', gm6, gm7, m3, at_s, bR_s, rd_n (by omega) (by omega), (ra2 p (by omega)).1, if_neg h6, nI_1, oth_s hc1 hu3, bR_s, rd_n (by omega) (by omega), (ra2 p (by omega)).1, b1, at_s, bR_s, nI_1, nI_add, nI_1, nI_add, ea, eb, rd_n (by omega) (by omega), (ra0 _ (by omega)).1, a2, if_neg (fun h => (nI3_ne hc1).2.2.1 h.symm), rd_n (by omega) (by omega), (ra1 _ (by omega)).1, a5, e2, bWi_s, nI_a1]
      · have : sm (wC g) u = r + sm (wC g') u := k5
        omega
