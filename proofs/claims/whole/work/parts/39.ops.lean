/-- the two agree, k calls done -/
def RELH : rl_T := fun n k f g fm gm => ∃ c u o sc lg tk, ST n c u o sc lg tk f g fm gm ∧ lg ≤ k ∧ fm 10 = f 7 ∧ fm 11 = f 9 ∧ ¬ f 9 < 0 ∧ ∃ q : Nat, 1 ≤ q ∧ q ≤ 64 ∧ f 1 = nI q
theorem i_asc (a b : Int32) : a + b - a = b := by
  rw [Int32.add_comm a b]
  exact Int32.add_sub_cancel b a
theorem mx_0 {M : Int32} (h : ¬ M < 0) : M = mx M (nI 0) := by
  unfold mx
  rw [if_neg (show ¬ M < nI 0 from h)]
theorem mx_nn {M : Int32} {a : Nat} (h : ¬ M < 0) (ha : a < 2 ^ 31) : ¬ mx M (nI a) < 0 := by
  unfold mx
  split
  · exact nI_pos ha
  · exact h
theorem open_op {f fm : Nat → Int32} (h10 : fm 10 = f 7) (h11 : fm 11 = f 9) (h9 : ¬ f 9 < 0) : OP (f 9) 0 (upd f 8 0) (upd fm 13 (fm 10)) := ⟨rfl, mx_0 h9, h11, h10, by show fm 10 = fm 10 + nI 0; rw [show nI 0 = 0 from rfl, Int32.add_zero]⟩
theorem close_op {f fm : Nat → Int32} {gm : Nat → Nat → Int32} {M : Int32} {a : Nat} (h : OP M a f fm) : sX3_close fm gm = some (upd fm 11 (f 9), gm) := by
  obtain ⟨o8, o9, o11, o10, o13⟩ := h
  unfold sX3_close
  rw [o13, i_asc, o11, o9]
  unfold mx
  by_cases h1 : nI a ≤ M
  · have h2 : ¬ M < nI a := by
      rw [Int32.lt_iff_toInt_lt]
      rw [Int32.le_iff_toInt_le] at h1
      omega
    rw [if_pos h1, if_neg h2]
  · have h2 : M < nI a := by
      rw [Int32.lt_iff_toInt_lt]
      rw [Int32.le_iff_toInt_le] at h1
      omega
    rw [if_neg h1, if_pos h2]
    rfl
theorem begin_op {n c u o sc lg tk : Nat} {f fm : Nat → Int32} {g gm : Nat → Nat → Int32} (h : ST n c u o sc lg tk f g fm gm) : ∃ fm' gm', sX3_begin fm gm = some (fm', gm') ∧ ST n c u o sc lg tk (upd f 2 1) g fm' gm' ∧ fm' 0 = fm 0 ∧ fm' 10 = fm 10 ∧ fm' 11 = fm 11 ∧ fm' 13 = fm 13 := by
  obtain ⟨P, h3, hsc, hr⟩ := h
  obtain ⟨⟨⟨hn1, hn2, hc1, hun, htk1, hlg⟩, f0, f12, f14, f13, f15, f10, f11⟩, iU, iH, iO, iR, iG, iL, ⟨s1, s2, s3, s4, s5, s6, s7, s8, s9, s10⟩, ra0, ra1, ra2, rc, ro, rr, rl⟩ := P
  rcases hr with h2 | ⟨h2, e1, e2, e3, e4, hid⟩
  · refine ⟨fm, gm, ?_, ⟨⟨⟨⟨hn1, hn2, hc1, hun, htk1, hlg⟩, f0, f12, f14, f13, f15, f10, f11⟩, iU, iH, iO, iR, iG, iL, ⟨s1, s2, s3, s4.trans h2, s5, s6, s7, s8, s9, s10⟩, ra0, ra1, ra2, rc, ro, rr, rl⟩, h3, hsc, Or.inl rfl⟩, rfl, rfl, rfl, rfl⟩
    unfold sX3_begin
    rw [if_neg (by rw [s4, h2]; decide)]
  · subst e1; subst e2; subst e3; subst e4
    refine ⟨upd (upd (upd (upd fm 4 1) 5 0) 6 0) 7 0, ur gm 3 (upd (gm 3) (1 - c) 0), ?_, ⟨⟨⟨⟨hn1, hn2, hc1, hun, htk1, hlg⟩, f0, f12, f14, f13, f15, f10, f11⟩, iU, iH, iO, iR, iG, iL, ⟨s1, s2, s3, rfl, h3.symm, f10.symm, f11.symm, s8, s9, s10⟩, ra0, ra1, ra2, ?_, ?_, rr, rl⟩, h3, hsc, Or.inl rfl⟩, rfl, rfl, rfl, rfl⟩
    · unfold sX3_begin
      have m3 : (upd (upd (upd (upd fm 4 1) 5 0) 6 0) 7 0) 3 = nI c := s3.trans f12
      rw [if_pos (s4.trans h2), oth_s hc1 m3, bR_s, wt_n (by omega) (by omega), nI_clamp (by omega)]
    · rw [ur_s, upd_n (by omega)]; exact rc
    · rw [ur_s, upd_s]; exact f15.symm
theorem ST.f8 {n c u o sc lg tk : Nat} {f fm : Nat → Int32} {g gm : Nat → Nat → Int32} {v w : Int32} (h : ST n c u o sc lg tk f g fm gm) : ST n c u o sc lg tk (upd f 8 v) g (upd (upd fm 0 w) 13 ((upd fm 0 w) 10)) gm := h
theorem pu_skip_h : pu_skip RELH := by
  rintro n k f g fm gm hk ⟨c, u, o, sc, lg, tk, h, hl, r⟩
  exact ⟨c, u, o, sc, lg, tk, h, by omega, r⟩
/-- the reference's answer of a refused call -/
theorem rel_0 {n k : Nat} {f fm : Nat → Int32} {g gm : Nat → Nat → Int32} {v : Int32} (h : RELH n k f g fm gm) : RELH n (k + 1) f g (upd fm 0 v) gm := by
  obtain ⟨c, u, o, sc, lg, tk, h, hl, r⟩ := h
  exact ⟨c, u, o, sc, lg, tk, h, by omega, r⟩
set_option maxHeartbeats 1000000 in
theorem pu_collect_h : pu_collect RELH := by
  intro n k ad f g fm gm p1 hk hR
  by_cases hp : -1 ≤ p1
  · obtain ⟨c, u, o, sc, lg, tk, h, hl, r10, r11, r9, q, hq1, hq2, hq⟩ := hR
    have S1 : ST n c u o sc lg tk (upd f 8 0) g (upd (upd fm 0 0) 13 (fm 10)) gm := h
    obtain ⟨fm1, gm1, b1, S2, b0, b10, b11, b13⟩ := begin_op S1
    have O1 : OP (f 9) 0 (upd (upd f 8 0) 2 1) fm1 := ⟨rfl, mx_0 r9, b11.trans r11, b10.trans r10, by rw [b10, b13]; show fm 10 = fm 10 + nI 0; rw [show nI 0 = 0 from rfl, Int32.add_zero]⟩
    obtain ⟨v1, hv, hcl⟩ : ∃ v1 : Int32, ((v1 = p1 ∧ ¬ p1 < 0) ∨ (v1 = 1000000 ∧ p1 = -1)) ∧ sX2_collect n ad f g p1 = sX2_collect_35 n ad (upd (upd f 8 0) 2 1) g v1 := by
      by_cases e : p1 = -1
      · exact ⟨1000000, Or.inr ⟨rfl, e⟩, by unfold sX2_collect; rw [if_pos hp, if_pos e]⟩
      · refine ⟨p1, Or.inl ⟨rfl, fun hlt => e ?_⟩, by unfold sX2_collect; rw [if_pos hp, if_neg e]⟩
        rw [Int32.lt_iff_toInt_lt] at hlt
        rw [Int32.le_iff_toInt_le] at hp
        have h1 : (-1 : Int32).toInt = -1 := by decide
        have h2 : (0 : Int32).toInt = 0 := by decide
        exact Int32.toInt_inj.mp (by omega)
    obtain ⟨e, ad', f', g', fm', gm', c', u', o', sc', lg', tk', w1, w2, S3, O2, ⟨k1, k0, kl⟩, -, he⟩ := work_op (ad := ad) hv S2 O1 (by omega)
    rw [Nat.zero_add] at O2
    refine ⟨0, f' 8, ad', f', g', nI e, upd fm' 11 (f' 9), gm', ?_, ?_, ?_, fun _ => O2.1, c', u', o', sc', lg', tk', S3, by omega, O2.2.2.2.1, rfl, ?_, q, hq1, hq2, k1.trans hq⟩
    · rw [hcl]
      unfold sX2_collect_35
      rw [w1, bFv_s]
    · unfold sX3_collect
      rw [if_pos hp]
      unfold sX3_collect_11
      rw [if_pos (by decide)]
      have eo : sX3_open (upd fm 0 0) gm = some (upd (upd fm 0 0) 13 (fm 10), gm) := rfl
      rw [eo, bWv_s, b1, bWv_s, w2, bWi_s, close_op O2, bWv_s]
    · show fm' 0 = _
      rw [k0, b0]
      rfl
    · rw [O2.2.1]; exact mx_nn r9 (by omega)
  · refine ⟨1, 0, ad, f, g, 0, upd fm 0 1, gm, ?_, ?_, rfl, fun h => absurd h (by decide), rel_0 hR⟩
    · unfold sX2_collect
      rw [if_neg hp]
    · unfold sX3_collect
      rw [if_neg hp]
      unfold sX3_collect_11
      rw [if_neg (by decide)]
theorem pu_count_h : pu_count RELH := by
  intro n k ad f g fm gm p1 hk hR
  have hR2 := rel_0 (v := 0) hR
  obtain ⟨c, u, o, sc, lg, tk, h, hl, r10, r11, r9, q, hq1, hq2, hq⟩ := hR
  obtain ⟨P, h3, hsc, hr⟩ := h
  obtain ⟨⟨⟨hn1, hn2, hc1, hun, htk1, hlg⟩, f0, f12, f14, f13, f15, f10, f11⟩, iU, iH, iO, iR, iG, iL, ⟨s1, s2, s3, s4, s5, s6, s7, s8, s9, s10⟩, ra0, ra1, ra2, rc, ro, rr, rl⟩ := P
  have m3 : fm 3 = nI c := s3.trans f12
  have m3' : (upd fm 0 0) 3 = nI c := m3
  have a2 : ∀ (k : Int32 → Option (Int32 × (Nat → Int32) × (Nat → Nat → Int32))), rd (gm 3) 2 (fm 3) k = k (f 13) := fun k => by rw [m3, rd_n (by omega) (by omega), rc]
  have a3 : ∀ (k : Int32 → Option (Int32 × (Nat → Int32) × (Nat → Nat → Int32))), bR (sX3_other (upd fm 0 0) gm) (fun r => rd (gm 3) 2 r k) = k (f 15) := fun k => by rw [oth_s hc1 m3', bR_s, rd_n (by omega) (by omega), ro]
  unfold sX2_count sX3_count
  rw [a2, a3, s1, s3, s4, s5, s6, s7, s8, s9, s10, r10, r11]
  by_cases e0 : p1 = 0
  · rw [if_pos e0, if_pos e0]; exact ⟨_, _, _, rfl, rfl, hR2⟩
  rw [if_neg e0, if_neg e0]
  by_cases e1 : p1 = 1
  · rw [if_pos e1, if_pos e1]
    by_cases e : f 2 = 0
    · rw [if_pos e, if_pos e]; exact ⟨_, _, _, rfl, rfl, hR2⟩
    · rw [if_neg e, if_neg e]; exact ⟨_, _, _, rfl, rfl, hR2⟩
  rw [if_neg e1, if_neg e1]
  by_cases e2 : p1 = 2
  · rw [if_pos e2, if_pos e2]; exact ⟨_, _, _, rfl, rfl, hR2⟩
  rw [if_neg e2, if_neg e2]
  by_cases e3 : p1 = 3
  · rw [if_pos e3, if_pos e3]; exact ⟨_, _, _, rfl, rfl, hR2⟩
  rw [if_neg e3, if_neg e3]
  by_cases e4 : p1 = 4
  · rw [if_pos e4, if_pos e4]; exact ⟨_, _, _, rfl, rfl, hR2⟩
  rw [if_neg e4, if_neg e4]
  by_cases e5 : p1 = 5
  · rw [if_pos e5, if_pos e5]; exact ⟨_, _, _, rfl, rfl, hR2⟩
  rw [if_neg e5, if_neg e5]
  by_cases e6 : p1 = 6
  · rw [if_pos e6, if_pos e6]; exact ⟨_, _, _, rfl, rfl, hR2⟩
  rw [if_neg e6, if_neg e6]
  by_cases e7 : p1 = 7
  · rw [if_pos e7, if_pos e7]; exact ⟨_, _, _, rfl, rfl, hR2⟩
  rw [if_neg e7, if_neg e7]
  by_cases e8 : p1 = 8
  · rw [if_pos e8, if_pos e8]; exact ⟨_, _, _, rfl, rfl, hR2⟩
  rw [if_neg e8, if_neg e8]
  by_cases e9 : p1 = 9
  · rw [if_pos e9, if_pos e9]; exact ⟨_, _, _, rfl, rfl, hR2⟩
  rw [if_neg e9, if_neg e9]
  by_cases e10 : p1 = 10
  · rw [if_pos e10, if_pos e10]; exact ⟨_, _, _, rfl, rfl, hR2⟩
  rw [if_neg e10, if_neg e10]
  by_cases e11 : p1 = 11
  · rw [if_pos e11, if_pos e11]; exact ⟨_, _, _, rfl, rfl, hR2⟩
  rw [if_neg e11, if_neg e11]
  by_cases e12 : p1 = 12
  · rw [if_pos e12, if_pos e12]; exact ⟨_, _, _, rfl, rfl, hR2⟩
  rw [if_neg e12, if_neg e12]
  exact ⟨_, _, _, rfl, rfl, hR2⟩
