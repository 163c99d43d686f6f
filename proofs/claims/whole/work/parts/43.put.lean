theorem put_no {f : Nat → Int32} {g : Nat → Nat → Int32} {a b d w : Int32} (hw : ¬ w = 0) : sX3_put_33 f g a b d w = some (upd f 0 w, g) := by
  unfold sX3_put_33
  rw [if_neg hw]
theorem putN_no {f : Nat → Int32} {g : Nat → Nat → Int32} {a b d w : Int32} (hw : ¬ w = 0) : sX3_putNumber_26 f g a b d w = some (upd f 0 w, g) := by
  unfold sX3_putNumber_26
  rw [if_neg hw]
set_option maxHeartbeats 1000000 in
theorem pu_put_h : pu_put RELH := by
  intro n k ad f g fm gm p1 p2 p3 hk hR
  rcases root_cases p1 with ⟨r, hr, rfl, i2, i3⟩ | ⟨i2, i3⟩
  · rcases root_cases p3 with ⟨r3, hr3, rfl, j2, j3⟩ | ⟨j2, j3⟩
    · have hR0 := hR
      obtain ⟨c, u, o, sc, lg, tk, h, hl, r10, r11, r9, q, hq1, hq2, hq⟩ := hR
      rcases field_cases (ad := ad) h.1 hr p2 with ⟨t, z, j, a0, a1, b2, rfl, hj, ⟨hb, hun, hn2, hc1⟩, hk4, q2, q3⟩ | ⟨q2, q3⟩
      · have f12 : f 12 = nI c := h.1.1.2.2.1
        have m3 : fm 3 = nI c := h.1.2.2.2.2.2.2.2.1.2.2.1.trans f12
        obtain ⟨e0, e1⟩ := h.1.2.2.2.2.2.2.2.2.2.2.2.2.2.1 r3 hr3
        obtain ⟨kx, hkx, hv⟩ : ∃ kx : Int32, ((g 0 r3 = 0 ∧ kx = 0) ∨ (¬ g 0 r3 = 0 ∧ kx = nI (1 + c))) ∧ (kx = 0 ∨ (kx = nI (1 + c) ∧ ∃ t z, g 1 r3 = nI t ∧ hc g u t z)) := by
          rcases h.1.2.2.2.2.2.1 r3 hr3 with a | ⟨a, w⟩
          · exact ⟨0, Or.inl ⟨a, rfl⟩, Or.inl rfl⟩
          · exact ⟨nI (1 + c), Or.inr ⟨by rw [a]; exact i10, rfl⟩, Or.inr ⟨rfl, w⟩⟩
        have h' : ST n c u o sc lg tk f g (upd fm 0 0) gm := h
        obtain ⟨ad', f', g', fm', gm', c', u', o', sc', lg', tk', w1, w2, S3, k10, k11, k9, k1, k0, kl⟩ := change_op (ad := ad) h' (by omega) r10 r11 r9 hq hq2 hr a1 b2 hj hk4 hv
        refine ⟨0, ad', f', g', fm', gm', ?_, ?_, k0, c', u', o', sc', lg', tk', S3, by omega, k10, k11, k9, q, hq1, hq2, k1.trans hq⟩
        · unfold sX2_put
          rw [i2, bR_s, if_neg i10, j2, bR_s, if_neg i10, q2, bR_s, if_neg i10, rd_n hr3 (by omega), f12, nI_a1]
          have hp : sX2_put_61 n ad f g (nI r) (nI j) (nI r3) kx = some (0, ad', f', g') := by
            unfold sX2_put_61
            rw [rd_n hr (by omega), rd_n hr3 (by omega), a1, w1, bFv_s]
          rcases hkx with ⟨a, rfl⟩ | ⟨a, rfl⟩
          · rw [if_pos a, hp]
          · rw [if_neg a, hp]
        · unfold sX3_put
          rw [i3, bR_s, if_neg i10, j3, bR_s, if_neg i10, q3, bR_s, if_neg i10]
          unfold sX3_put_33
          rw [if_pos rfl, rd_n hr3 (by omega), e0, m3, nI_a1]
          have hp : sX3_put_65 (upd fm 0 0) gm (nI r3) (nI r) (nI j) kx = some (fm', gm') := by
            unfold sX3_put_65
            rw [rd_n hr3 (by omega), e1, w2, bWv_s]
          rcases hkx with ⟨a, rfl⟩ | ⟨a, rfl⟩
          · rw [if_pos a, hp]
          · rw [if_neg a, hp]
      · refine ⟨2, ad, f, g, upd fm 0 2, gm, ?_, ?_, rfl, rel_0 hR0⟩
        · unfold sX2_put
          rw [i2, bR_s, if_neg i10, j2, bR_s, if_neg i10, q2, bR_s, if_pos rfl]
        · unfold sX3_put
          rw [i3, bR_s, if_neg i10, j3, bR_s, if_neg i10, q3, bR_s, if_pos rfl, put_no (by decide)]
    · refine ⟨1, ad, f, g, upd fm 0 1, gm, ?_, ?_, rfl, rel_0 hR⟩
      · unfold sX2_put
        rw [i2, bR_s, if_neg i10, j2, bR_s, if_pos rfl]
      · unfold sX3_put
        rw [i3, bR_s, if_neg i10, j3, bR_s, if_pos rfl]
        exact put_no (by decide)
  · refine ⟨1, ad, f, g, upd fm 0 1, gm, ?_, ?_, rfl, rel_0 hR⟩
    · unfold sX2_put
      rw [i2, bR_s, if_pos rfl]
    · unfold sX3_put
      rw [i3, bR_s, if_pos rfl]
      exact put_no (by decide)
set_option maxHeartbeats 1000000 in
theorem pu_putNumber_h : pu_putNumber RELH := by
  intro n k ad f g fm gm p1 p2 p3 hk hR
  rcases root_cases p1 with ⟨r, hr, rfl, i2, i3⟩ | ⟨i2, i3⟩
  · have hR0 := hR
    obtain ⟨c, u, o, sc, lg, tk, h, hl, r10, r11, r9, q, hq1, hq2, hq⟩ := hR
    rcases field_cases (ad := ad) h.1 hr p2 with ⟨t, z, j, a0, a1, b2, rfl, hj, ⟨hb, hun, hn2, hc1⟩, hk4, q2, q3⟩ | ⟨q2, q3⟩
    · have h' : ST n c u o sc lg tk f g (upd fm 0 0) gm := h
      obtain ⟨ad', f', g', fm', gm', c', u', o', sc', lg', tk', w1, w2, S3, k10, k11, k9, k1, k0, kl⟩ := change_op (ad := ad) (kx := 0) (vx := p3) h' (by omega) r10 r11 r9 hq hq2 hr a1 b2 hj hk4 (Or.inl rfl)
      refine ⟨0, ad', f', g', fm', gm', ?_, ?_, k0, c', u', o', sc', lg', tk', S3, by omega, k10, k11, k9, q, hq1, hq2, k1.trans hq⟩
      · unfold sX2_putNumber
        rw [i2, bR_s, if_neg i10, q2, bR_s, if_neg i10, rd_n hr (by omega), a1, w1, bFv_s]
      · unfold sX3_putNumber
        rw [i3, bR_s, if_neg i10, q3, bR_s, if_neg i10]
        unfold sX3_putNumber_26
        rw [if_pos rfl, w2, bWv_s]
    · refine ⟨2, ad, f, g, upd fm 0 2, gm, ?_, ?_, rfl, rel_0 hR0⟩
      · unfold sX2_putNumber
        rw [i2, bR_s, if_neg i10, q2, bR_s, if_pos rfl]
      · unfold sX3_putNumber
        rw [i3, bR_s, if_neg i10, q3, bR_s, if_pos rfl, putN_no (by decide)]
  · refine ⟨1, ad, f, g, upd fm 0 1, gm, ?_, ?_, rfl, rel_0 hR⟩
    · unfold sX2_putNumber
      rw [i2, bR_s, if_pos rfl]
    · unfold sX3_putNumber
      rw [i3, bR_s, if_pos rfl, putN_no (by decide)]
