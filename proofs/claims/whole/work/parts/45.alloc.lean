theorem upd_id {f : Nat → Int32} {k : Nat} {x : Int32} (h : f k = x) : upd f k x = f := by
  funext j
  by_cases e : j = k
  · rw [e, upd_s, h]
  · rw [upd_n e]
theorem has_op {n c u o sc lg tk z : Nat} {f fm : Nat → Int32} {g gm : Nat → Nat → Int32} {ad : Nat → Nat} (h : ST n c u o sc lg tk f g fm gm) (hz8 : z ≤ 8) : (u + z + 1 ≤ n ∧ sX1_hasRoom n ad f g (nI z) = some 1 ∧ sX3_has fm gm (nI z) = some 1) ∨ (sX1_hasRoom n ad f g (nI z) = some 0 ∧ sX3_has fm gm (nI z) = some 0) := by
  obtain ⟨⟨⟨hn1, hn2, hc1, hun, htk1, hlg⟩, f0, f12, f14, f13, f15, f10, f11⟩, iU, iH, iO, iR, iG, iL, ⟨s1, s2, s3, s4, s5, s6, s7, s8, s9, s10⟩, ra0, ra1, ra2, rc, ro, rr, rl⟩ := h.1
  have m3 : fm 3 = nI c := s3.trans f12
  have L2 : sX1_hasRoom n ad f g (nI z) = if nI n < nI (u + z + 1) then some 0 else some 1 := by
    unfold sX1_hasRoom
    rw [f13, nI_add, nI_1]
  have L3 : sX3_has fm gm (nI z) = if nI n < nI (u + z + 1) then some 0 else some 1 := by
    unfold sX3_has
    rw [m3, rd_n (by omega) (by omega), rc, f13, s1, f0, nI_add, nI_1]
  by_cases q : n < u + z + 1
  · have q' := nI_lt q (by omega)
    exact Or.inr ⟨by rw [L2, if_pos q'], by rw [L3, if_pos q']⟩
  · have q' : ¬ nI n < nI (u + z + 1) := fun w => q ((nI_ltI (by omega) (by omega)).mp w)
    exact Or.inl ⟨by omega, by rw [L2, if_neg q'], by rw [L3, if_neg q']⟩
theorem pause_op {n c u o sc lg tk : Nat} {f fm : Nat → Int32} {g gm : Nat → Nat → Int32} {ad : Nat → Nat} {M : Int32} {a : Nat} (h : ST n c u o sc lg tk f g fm gm) (hO : OP M a f fm) (ha : a ≤ 50000) :
    ∃ e ad' f' g' fm' gm' c' u' o' sc' lg' tk', sX2_work n ad (upd (upd f 2 1) 5 (f 5 + 1)) g 1000000 = some (ad', f', g') ∧ sX3_pause fm gm = some (fm', gm') ∧ ST n c' u' o' sc' lg' tk' f' g' fm' gm' ∧ OP M (a + e) f' fm' ∧ (f' 1 = f 1 ∧ fm' 0 = fm 0 ∧ lg' ≤ lg) ∧ e ≤ 5000 := by
  have h0 := h
  obtain ⟨⟨iS, iU, iH, iO, iR, iG, iL, ⟨s1, s2, s3, s4, s5, s6, s7, s8, s9, s10⟩, rG⟩, h3, hsc, hrun⟩ := h0
  have S0 : ST n c u o sc lg tk (upd f 5 (f 5 + 1)) g (upd fm 9 (fm 9 + 1)) gm := ⟨⟨iS, iU, iH, iO, iR, iG, iL, ⟨s1, s2, s3, s4, s5, s6, s7, s8, by show fm 9 + 1 = f 5 + 1; rw [s9], s10⟩, rG⟩, h3, hsc, hrun⟩
  obtain ⟨fm1, gm1, b1, S1, b0, b10, b11, b13⟩ := begin_op S0
  have S2 : ST n c u o sc lg tk (upd (upd f 2 1) 5 (f 5 + 1)) g fm1 gm1 := S1
  have O1 : OP M a (upd (upd f 2 1) 5 (f 5 + 1)) fm1 := ⟨hO.1, hO.2.1, b11.trans hO.2.2.1, b10.trans hO.2.2.2.1, by rw [b10, b13]; exact hO.2.2.2.2⟩
  obtain ⟨e, ad', f', g', fm', gm', c', u', o', sc', lg', tk', w1, w2, S3, O2, ⟨k1, k0, kl⟩, -, he⟩ := work_op (ad := ad) (v1 := 1000000) (vm := -1) (Or.inr ⟨rfl, rfl⟩) S2 O1 (by omega)
  refine ⟨e, ad', f', g', fm', gm', c', u', o', sc', lg', tk', w1, ?_, S3, O2, ⟨k1, k0.trans b0, kl⟩, he⟩
  unfold sX3_pause
  rw [lt_s', b1, bWv_s, w2, bWi_s]
theorem room34_op {n c u o sc lg tk z : Nat} {f fm : Nat → Int32} {g gm : Nat → Nat → Int32} {ad : Nat → Nat} {M v1 : Int32} {a : Nat} (h : ST n c u o sc lg tk f g fm gm) (hO : OP M a f fm) (ha : a ≤ 50000) (hz8 : z ≤ 8) :
    ∃ e ad' f' g' fm' gm' c' u' o' sc' lg' tk', sX2_makeRoom_34 n ad f g (nI z) = some (ad', f', g') ∧ sX3_alloc_59 fm gm v1 (nI z) = sX3_alloc_71 fm' gm' v1 (nI z) ∧ ST n c' u' o' sc' lg' tk' f' g' fm' gm' ∧ OP M (a + e) f' fm' ∧ (f' 1 = f 1 ∧ fm' 0 = fm 0 ∧ lg' ≤ lg) ∧ e ≤ 5000 := by
  unfold sX2_makeRoom_34 sX3_alloc_59
  rcases has_op (ad := ad) h hz8 with ⟨-, q2, q3⟩ | ⟨q2, q3⟩
  · refine ⟨0, ad, f, g, fm, gm, c, u, o, sc, lg, tk, ?_, ?_, h, hO, ⟨rfl, rfl, Nat.le_refl _⟩, by omega⟩
    · rw [q2, bR_s, if_neg i10]
    · rw [q3, bR_s, if_neg i10]
  · obtain ⟨e, ad', f', g', fm', gm', c', u', o', sc', lg', tk', w1, w2, r⟩ := pause_op (ad := ad) h hO ha
    refine ⟨e, ad', f', g', fm', gm', c', u', o', sc', lg', tk', ?_, ?_, r⟩
    · rw [q2, bR_s, if_pos rfl, lt_s', w1, bFv_s]
    · rw [q3, bR_s, if_pos rfl, w2, bWv_s]
theorem room_op {n c u o sc lg tk z : Nat} {f fm : Nat → Int32} {g gm : Nat → Nat → Int32} {ad : Nat → Nat} {M v1 : Int32} {a : Nat} (h : ST n c u o sc lg tk f g fm gm) (hO : OP M a f fm) (ha : a ≤ 40000) (hz8 : z ≤ 8) :
    ∃ e ad' f' g' fm' gm' c' u' o' sc' lg' tk', sX2_makeRoom n ad f g (nI z) = some (ad', f', g') ∧ bR (sX3_has fm gm (nI z)) (fun r8 => if r8 = 0 then (if (fm 4) = 0 then (sX3_alloc_59 fm gm v1 (nI z)) else (bWv (sX3_pause fm gm) (fun f69 g70 => sX3_alloc_59 f69 g70 v1 (nI z)))) else (sX3_alloc_59 fm gm v1 (nI z))) = sX3_alloc_71 fm' gm' v1 (nI z) ∧ ST n c' u' o' sc' lg' tk' f' g' fm' gm' ∧ OP M (a + e) f' fm' ∧ (f' 1 = f 1 ∧ fm' 0 = fm 0 ∧ lg' ≤ lg) ∧ e ≤ 10000 := by
  have s4 : fm 4 = f 2 := h.1.2.2.2.2.2.2.2.1.2.2.2.1
  unfold sX2_makeRoom
  rcases h.2.2.2 with h2 | ⟨h2, -⟩
  · have n2 : ¬ f 2 = 0 := by rw [h2]; decide
    have n4 : ¬ fm 4 = 0 := by rw [s4]; exact n2
    rw [if_neg n2, if_neg n4]
    rcases has_op (ad := ad) h hz8 with ⟨-, q2, q3⟩ | ⟨q2, q3⟩
    · obtain ⟨e, ad', f', g', fm', gm', c', u', o', sc', lg', tk', w1, w2, S, O, k, he⟩ := room34_op (ad := ad) (v1 := v1) h hO (by omega) hz8
      refine ⟨e, ad', f', g', fm', gm', c', u', o', sc', lg', tk', ?_, ?_, S, O, k, by omega⟩
      · rw [q2, bR_s, if_neg i10, w1]
      · rw [q3, bR_s, if_neg i10, w2]
    · obtain ⟨e, ad1, f1, g1, fm1, gm1, c1, u1, o1, sc1, lg1, tk1, w1, w2, S1, O1, ⟨k1, k0, kl⟩, he⟩ := pause_op (ad := ad) h hO (by omega)
      obtain ⟨e2, ad', f', g', fm', gm', c', u', o', sc', lg', tk', x1, x2, S, O, ⟨k1', k0', kl'⟩, he2⟩ := room34_op (ad := ad1) (v1 := v1) S1 O1 (by omega) hz8
      rw [upd_id h2] at w1
      refine ⟨e + e2, ad', f', g', fm', gm', c', u', o', sc', lg', tk', ?_, ?_, S, by rw [← Nat.add_assoc]; exact O, ⟨k1'.trans k1, k0'.trans k0, by omega⟩, by omega⟩
      · rw [q2, bR_s, if_pos rfl, lt_s', w1, bFv_s, x1]
      · rw [q3, bR_s, if_pos rfl, w2, bWv_s, x2]
  · rw [if_pos h2, if_pos (s4.trans h2)]
    obtain ⟨e, ad', f', g', fm', gm', c', u', o', sc', lg', tk', w1, w2, S, O, k, he⟩ := room34_op (ad := ad) (v1 := v1) h hO (by omega) hz8
    refine ⟨e, ad', f', g', fm', gm', c', u', o', sc', lg', tk', w1, ?_, S, O, k, by omega⟩
    rcases has_op (ad := ad) h hz8 with ⟨-, q2, q3⟩ | ⟨q2, q3⟩
    · rw [q3, bR_s, if_neg i10, w2]
    · rw [q3, bR_s, if_pos rfl, w2]
theorem fin_op {n k c u o sc lg tk q a : Nat} {f fm : Nat → Int32} {g gm : Nat → Nat → Int32} {M v3 : Int32} (h : ST n c u o sc lg tk f g fm gm) (hO : OP M a f fm) (ha : a < 2 ^ 31) (hM : ¬ M < 0) (hl : lg ≤ k) (hq1 : 1 ≤ q) (hq2 : q ≤ 64) (hq : f 1 = nI q) (hv3 : v3 = 0 ∨ v3 = 1) : sX3_alloc_262 fm gm v3 = some (v3, upd fm 11 (f 9), gm) ∧ RELH n k f g (upd fm 11 (f 9)) gm := by
  refine ⟨?_, c, u, o, sc, lg, tk, h, hl, hO.2.2.2.1, rfl, by rw [hO.2.1]; exact mx_nn hM ha, q, hq1, hq2, hq⟩
  unfold sX3_alloc_262
  rw [close_op hO, bWv_s]
  unfold bz
  rw [if_pos hv3]
theorem alloc_no {f : Nat → Int32} {g : Nat → Nat → Int32} {a b : Int32} : sX3_alloc_23 f g a b = some (0, upd f 0 1, g) := by
  unfold sX3_alloc_23 sX3_alloc_24
  rw [if_neg i1le0]
set_option maxHeartbeats 1000000 in
theorem pu_alloc_h : pu_alloc RELH := by
  intro n k ad f g fm gm p1 p2 hk hR
  have no : ∀ (h2 : sX2_alloc n ad f g p1 p2 = some (1, 0, ad, f, g)) (h3 : sX3_alloc fm gm p1 p2 = sX3_alloc_23 fm gm p1 p2), ∃ (k' : Nat) (r : Int32) (ad' : Nat → Nat) (f' : Nat → Int32) (g' : Nat → Nat → Int32) (b : Int32) (fm' : Nat → Int32) (gm' : Nat → Nat → Int32), sX2_alloc n ad f g p1 p2 = some (k', r, ad', f', g') ∧ sX3_alloc fm gm p1 p2 = some (b, fm', gm') ∧ fm' 0 = rq_k1 k' ∧ (k' = 0 → (if r = 0 then (0 : Int64) else 1) = if b = 0 then 0 else 1) ∧ RELH n (k + 1) f' g' fm' gm' := fun h2 h3 => ⟨1, 0, ad, f, g, 0, upd fm 0 1, gm, h2, h3.trans alloc_no, rfl, fun h => absurd h (by decide), rel_0 hR⟩
  rcases root_cases p1 with ⟨r, hr, rfl, i2, i3⟩ | ⟨i2, i3⟩
  · by_cases h1 : p2 < 1
    · refine no ?_ ?_
      · unfold sX2_alloc
        rw [i2, bR_s, if_neg i10, if_pos h1]
      · unfold sX3_alloc
        rw [i3, bR_s, if_neg i10, if_pos h1]
    by_cases h8 : 8 < p2
    · refine no ?_ ?_
      · unfold sX2_alloc
        rw [i2, bR_s, if_neg i10, if_neg h1, if_neg (fun q => i_le8.mp q h8)]
      · unfold sX3_alloc
        rw [i3, bR_s, if_neg i10, if_neg h1, if_pos h8]
    obtain ⟨z, hz, ez⟩ : ∃ z : Nat, z < 2 ^ 31 ∧ p2 = nI z := nI_of (fun q => h1 (by
      have := Int32.lt_iff_toInt_lt.mp q
      exact Int32.lt_iff_toInt_lt.mpr (Int.lt_trans this (by decide))))
    subst ez
    have hz1 : 1 ≤ z := Nat.not_lt.mp fun q => h1 (nI_lt (b := 1) q (by decide))
    have hz8 : z ≤ 8 := Nat.not_lt.mp fun q => h8 (nI_lt (a := 8) q hz)
    obtain ⟨c, u, o, sc, lg, tk, h, hl, r10, r11, r9, q, hq1, hq2, hq⟩ := hR
    have S0 : ST n c u o sc lg tk (upd f 8 0) g (upd (upd fm 0 0) 13 (fm 10)) gm := h
    have O0 : OP (f 9) 0 (upd f 8 0) (upd (upd fm 0 0) 13 (fm 10)) := open_op (fm := upd fm 0 0) r10 r11 r9
    obtain ⟨e, ad1, f1, g1, fm1, gm1, c1, u1, o1, sc1, lg1, tk1, w1, w2, S1, O1, ⟨k1, k0, kl⟩, he⟩ := room_op (ad := ad) (v1 := nI r) S0 O0 (by omega) hz8
    rw [Nat.zero_add] at O1
    have A2 : sX2_alloc n ad f g (nI r) (nI z) = bR (sX1_hasRoom n ad1 f1 g1 (nI z)) (fun r10 => if r10 = 0 then (some (((0 : Nat), 0, ad1, f1, g1))) else (bWi (sX1_layObject n ad1 f1 g1 (nI z)) (fun r13 f14 g15 => bWv (sX2_setRoot n ad1 f14 g15 (nI r) 1 r13) (fun f17 g18 => lt ((f17 6) + 1) (fun z20 => if (f17 2) = 0 then (if ((f17 13) * 2) ≤ (f17 0) then (some (((0 : Nat), 1, ad1, (upd f17 6 z20), g18))) else (some (((0 : Nat), 1, ad1, (upd (upd f17 6 z20) 2 1), g18)))) else (bFv (sX2_work n ad1 (upd f17 6 z20) g18 ((f17 1) * ((nI z) + 1))) (fun ad24 f25 g26 => some (((0 : Nat), 1, ad24, f25, g26))))))))) := by
      unfold sX2_alloc
      rw [i2, bR_s, if_neg i10, if_neg h1, if_pos (i_le8.mpr h8), w1, bFv_s]
    have A3 : sX3_alloc fm gm (nI r) (nI z) = sX3_alloc_71 fm1 gm1 (nI r) (nI z) := by
      unfold sX3_alloc
      rw [i3, bR_s, if_neg i10, if_neg h1, if_neg h8]
      unfold sX3_alloc_24
      have eo : sX3_open (upd fm 0 0) gm = some (upd (upd fm 0 0) 13 (fm 10), gm) := rfl
      rw [if_pos i0le0, eo, bWv_s]
      exact w2
    have k0 : fm1 0 = 0 := k0
    have k1 : f1 1 = nI q := k1.trans hq
    rcases has_op (ad := ad1) S1 hz8 with ⟨hroom, q2, q3⟩ | ⟨q2, q3⟩
    · obtain ⟨hn1, hn2, hc1, hun, -, -⟩ := S1.1.1.1
      obtain ⟨g2, gm2, y1, y2, y3, S2⟩ := lay_op (ad := ad1) S1 hz1 hz8 hroom hr
      have s2 : fm1 2 = f1 1 := S1.1.2.2.2.2.2.2.2.1.2.1
      have s4 : fm1 4 = f1 2 := S1.1.2.2.2.2.2.2.2.1.2.2.2.1
      have s1 : fm1 1 = f1 0 := S1.1.2.2.2.2.2.2.2.1.1
      have m3 : fm1 3 = nI c1 := S1.1.2.2.2.2.2.2.2.1.2.2.1.trans S1.1.1.2.2.1
      have rc : gm1 3 c1 = nI u1 := S1.1.2.2.2.2.2.2.2.2.2.2.2.1.trans S1.1.1.2.2.2.2.1
      have O2 : OP (f 9) e (upd (upd f1 13 (nI (u1 + (z + 1)))) 6 (f1 6 + 1)) (upd fm1 12 (fm1 12 + 1)) := O1
      have B2 : sX2_alloc n ad f g (nI r) (nI z) = if (f1 2) = 0 then (if (nI (u1 + (z + 1)) * 2) ≤ (f1 0) then (some (((0 : Nat), 1, ad1, (upd (upd f1 13 (nI (u1 + (z + 1)))) 6 (f1 6 + 1)), (ur (ur g2 0 (upd (g2 0) r 1)) 1 (upd (g2 1) r (nI u1)))))) else (some (((0 : Nat), 1, ad1, (upd (upd (upd f1 13 (nI (u1 + (z + 1)))) 6 (f1 6 + 1)) 2 1), (ur (ur g2 0 (upd (g2 0) r 1)) 1 (upd (g2 1) r (nI u1))))))) else (bFv (sX2_work n ad1 (upd (upd f1 13 (nI (u1 + (z + 1)))) 6 (f1 6 + 1)) (ur (ur g2 0 (upd (g2 0) r 1)) 1 (upd (g2 1) r (nI u1))) (nI (q * (z + 1)))) (fun ad24 f25 g26 => some (((0 : Nat), 1, ad24, f25, g26)))) := by
        rw [A2, q2, bR_s, if_neg i10, y1, bWi_s, set_s hr (Or.inr rfl), bWv_s, lt_s', show (upd f1 13 (nI (u1 + (z + 1)))) 1 = nI q from k1, nI_1, show nI q * nI (z + 1) = nI (q * (z + 1)) from pk_mul _ _]
        rfl
      obtain ⟨gF, hgF⟩ : ∃ gF, gF = (ur (ur (ur (ur gm2 2 (upd (gm2 2) (400 * c1 + u1) (-1))) 3 (upd (gm2 3) c1 (nI (u1 + (z + 1))))) 4 (upd (gm2 4) r 1)) 5 (upd (gm2 5) r (nI u1))) := ⟨_, rfl⟩
      have B3 : sX3_alloc fm gm (nI r) (nI z) = if (f1 2) = 0 then (if (nI (u1 + (z + 1)) * 2) ≤ (f1 0) then (sX3_alloc_262 (upd fm1 12 (fm1 12 + 1)) gF 1) else (bWv (sX3_begin (upd fm1 12 (fm1 12 + 1)) gF) (fun f43 g44 => sX3_alloc_262 f43 g44 1))) else (bWi (sX3_work (upd fm1 12 (fm1 12 + 1)) gF (nI (q * (z + 1)))) (fun r46 f47 g48 => sX3_alloc_262 f47 g48 1)) := by
        rw [A3]
        unfold sX3_alloc_71
        rw [q3, bR_s, if_neg i10, m3, rd_n (by omega) (by omega), rc, y2]
        obtain ⟨kk, hkk⟩ : ∃ kk, 39 - z = kk + 1 := ⟨38 - z, by omega⟩
        rw [hkk, sX3_alloc_95, if_pos (nI_lt (by omega) (by omega)), m3, at_s, bR_s, wt_n (by omega) (by omega), rd_n (by omega) (by omega), y3, lt_s', wt_n (by omega) (by omega), lt_s', wt_n hr (by omega), wt_n hr (by omega), nI_1, nI_add, nI_clamp (by omega), nI_clamp (by omega), nI_clamp (by omega), rd_n (by omega) (by omega), upd_s, s4, s1, s2, k1, vn1, Int32.mul_comm 2, show nI q * nI (z + 1) = nI (q * (z + 1)) from pk_mul _ _, ← hgF]
      rw [← hgF] at S2
      by_cases n2 : f1 2 = 0
      · by_cases hle : (nI (u1 + (z + 1)) * 2) ≤ (f1 0)
        · obtain ⟨t1, t2⟩ := fin_op (k := k + 1) (v3 := 1) S2 O2 (by omega) r9 (by omega) hq1 hq2 k1 (Or.inr rfl)
          refine ⟨0, 1, ad1, _, _, 1, _, _, ?_, ?_, ?_, fun _ => rfl, t2⟩
          · rw [B2, if_pos n2, if_pos hle]
          · rw [B3, if_pos n2, if_pos hle, t1]
          · exact k0
        · obtain ⟨fm3, gm3, b1, S3, b0, b10, b11, b13⟩ := begin_op S2
          have O3 : OP (f 9) e (upd (upd (upd f1 13 (nI (u1 + (z + 1)))) 6 (f1 6 + 1)) 2 1) fm3 := ⟨O2.1, O2.2.1, b11.trans O2.2.2.1, b10.trans O2.2.2.2.1, by rw [b10, b13]; exact O2.2.2.2.2⟩
          obtain ⟨t1, t2⟩ := fin_op (k := k + 1) (v3 := 1) S3 O3 (by omega) r9 (by omega) hq1 hq2 k1 (Or.inr rfl)
          refine ⟨0, 1, ad1, _, _, 1, _, _, ?_, ?_, ?_, fun _ => rfl, t2⟩
          · rw [B2, if_pos n2, if_neg hle]
          · rw [B3, if_pos n2, if_neg hle, b1, bWv_s, t1]
          · exact b0.trans k0
      · obtain ⟨e2, ad3, f3, g3, fm3, gm3, c3, u3, o3, sc3, lg3, tk3, x1, x2, S3, O3, ⟨l1, l0, ll⟩, -, he2⟩ := work_op (ad := ad1) (v1 := nI (q * (z + 1))) (vm := nI (q * (z + 1))) (Or.inl ⟨rfl, nI_pos (by
          have : q * (z + 1) ≤ 64 * 9 := Nat.mul_le_mul hq2 (by omega)
          omega)⟩) S2 O2 (by omega)
        obtain ⟨t1, t2⟩ := fin_op (k := k + 1) (v3 := 1) S3 O3 (by omega) r9 (by omega) hq1 hq2 (l1.trans k1) (Or.inr rfl)
        refine ⟨0, 1, ad3, _, _, 1, _, _, ?_, ?_, ?_, fun _ => rfl, t2⟩
        · rw [B2, if_neg n2, x1, bFv_s]
        · rw [B3, if_neg n2, x2, bWi_s, t1]
        · exact l0.trans k0
    · obtain ⟨t1, t2⟩ := fin_op (k := k + 1) (v3 := 0) S1 O1 (by omega) r9 (by omega) hq1 hq2 k1 (Or.inl rfl)
      refine ⟨0, 0, ad1, f1, g1, 0, _, _, ?_, ?_, ?_, fun _ => rfl, t2⟩
      · rw [A2, q2, bR_s, if_pos rfl]
      · rw [A3]
        unfold sX3_alloc_71
        rw [q3, bR_s, if_pos rfl, t1]
      · exact k0
  · refine no ?_ ?_
    · unfold sX2_alloc
      rw [i2, bR_s, if_pos rfl]
    · unfold sX3_alloc
      rw [i3, bR_s, if_pos rfl]
