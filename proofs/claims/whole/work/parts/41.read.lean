theorem look_no {f : Nat → Int32} {g : Nat → Nat → Int32} {a b : Int32} : sX3_look__21 f g a b = some (0, upd f 0 1, g) := by
  unfold sX3_look__21 sX3_look__22
  rw [if_neg i1le0]
set_option maxHeartbeats 1000000 in
theorem pu_look_h : pu_look RELH := by
  intro n k ad f g fm gm p1 p2 hk hR
  have no : ∀ (h2 : sX2_look n ad f g p1 p2 = some (1, 0)) (h3 : sX3_look_ fm gm p1 p2 = sX3_look__21 fm gm p1 p2), ∃ (k' : Nat) (r b : Int32) (fm' : Nat → Int32) (gm' : Nat → Nat → Int32), sX2_look n ad f g p1 p2 = some (k', r) ∧ sX3_look_ fm gm p1 p2 = some (b, fm', gm') ∧ fm' 0 = rq_k1 k' ∧ (k' = 0 → r = b) ∧ RELH n (k + 1) f g fm' gm' := fun h2 h3 => ⟨1, 0, 0, upd fm 0 1, gm, h2, h3.trans look_no, rfl, fun h => absurd h (by decide), rel_0 hR⟩
  have yes : ∀ (r : Int32) (h2 : sX2_look n ad f g p1 p2 = some (0, r)) (h3 : sX3_look_ fm gm p1 p2 = some (r, upd fm 0 0, gm)), ∃ (k' : Nat) (r b : Int32) (fm' : Nat → Int32) (gm' : Nat → Nat → Int32), sX2_look n ad f g p1 p2 = some (k', r) ∧ sX3_look_ fm gm p1 p2 = some (b, fm', gm') ∧ fm' 0 = rq_k1 k' ∧ (k' = 0 → r = b) ∧ RELH n (k + 1) f g fm' gm' := fun r h2 h3 => ⟨0, r, r, upd fm 0 0, gm, h2, h3, rfl, fun _ => rfl, rel_0 hR⟩
  rcases root_cases p1 with ⟨r, hr, rfl, i2, i3⟩ | ⟨i2, i3⟩
  · by_cases h1 : p2 < 0
    · refine no ?_ ?_
      · unfold sX2_look
        rw [i2, bR_s, if_neg i10, if_pos h1]
      · unfold sX3_look_
        rw [i3, bR_s, if_neg i10, if_pos h1]
    · by_cases h4 : 4 ≤ p2
      · refine no ?_ ?_
        · unfold sX2_look
          rw [i2, bR_s, if_neg i10, if_neg h1, if_neg (fun q => i_le3.mp q h4)]
        · unfold sX3_look_
          rw [i3, bR_s, if_neg i10, if_neg h1, if_pos h4]
      · obtain ⟨c, u, o, sc, lg, tk, h, hl, rest⟩ := hR
        obtain ⟨e0, e1⟩ := h.1.2.2.2.2.2.2.2.2.2.2.2.2.2.1 r hr
        obtain ⟨hn1, hn2, hc1, hun, -, -⟩ := h.1.1.1
        have m3 : fm 3 = nI c := h.1.2.2.2.2.2.2.2.1.2.2.1.trans h.1.1.2.2.1
        have h3 : p2 ≤ 3 := i_le3.mpr h4
        rcases h.1.2.2.2.2.2.1 r hr with a | ⟨a, t, z, b1, b2⟩
        · have L2 : sX2_look n ad f g (nI r) p2 = if p2 = 0 then some (0, 0) else if p2 = 1 then some (0, g 1 r) else if p2 = 2 then some (0, 0) else some (0, -1) := by
            unfold sX2_look
            rw [i2, bR_s, if_neg i10, if_neg h1, if_pos h3, rd_n hr (by omega), rd_n hr (by omega), a, if_pos rfl, if_pos rfl, if_pos rfl]
          have L3 : sX3_look_ fm gm (nI r) p2 = if p2 = 0 then some (0, upd fm 0 0, gm) else if p2 = 1 then some (g 1 r, upd fm 0 0, gm) else if p2 = 2 then some (0, upd fm 0 0, gm) else some (-1, upd fm 0 0, gm) := by
            unfold sX3_look_
            rw [i3, bR_s, if_neg i10, if_neg h1, if_neg h4]
            unfold sX3_look__22
            rw [if_pos i0le0, rd_n hr (by omega), e0, a, if_pos rfl]
            unfold sX3_look__57
            rw [m3, show (0 : Int32) = nI 0 from rfl, at_s, bR_s, rd_n hr (by omega), rd_n hr (by omega), rd_n hr (by omega), rd_n hr (by omega), e0, e1, a]
            rfl
          by_cases c0 : p2 = 0
          · exact yes 0 (by rw [L2, if_pos c0]) (by rw [L3, if_pos c0])
          by_cases c1 : p2 = 1
          · exact yes _ (by rw [L2, if_neg c0, if_pos c1]) (by rw [L3, if_neg c0, if_pos c1])
          by_cases c2 : p2 = 2
          · exact yes _ (by rw [L2, if_neg c0, if_neg c1, if_pos c2]) (by rw [L3, if_neg c0, if_neg c1, if_pos c2])
          · exact yes _ (by rw [L2, if_neg c0, if_neg c1, if_neg c2]) (by rw [L3, if_neg c0, if_neg c1, if_neg c2])
        · have htn : t < n := by have := b2.1; omega
          have g5 := (h.1.2.2.2.2.2.2.2.2.2.1 t htn).1
          have g6 := (h.1.2.2.2.2.2.2.2.2.2.2.1 t htn).1
          have L2 : sX2_look n ad f g (nI r) p2 = if p2 = 0 then some (0, 1) else if p2 = 1 then some (0, nI t) else if p2 = 2 then some (0, g 5 t) else some (0, g 6 t) := by
            unfold sX2_look
            rw [i2, bR_s, if_neg i10, if_neg h1, if_pos h3, rd_n hr (by omega), rd_n hr (by omega), a, b1, if_neg i10, if_neg i10, if_neg i10, rd_n htn (by omega), rd_n htn (by omega)]
          have L3 : sX3_look_ fm gm (nI r) p2 = if p2 = 0 then some (1, upd fm 0 0, gm) else if p2 = 1 then some (nI t, upd fm 0 0, gm) else if p2 = 2 then some (g 5 t, upd fm 0 0, gm) else some (g 6 t, upd fm 0 0, gm) := by
            unfold sX3_look_
            rw [i3, bR_s, if_neg i10, if_neg h1, if_neg h4]
            unfold sX3_look__22
            rw [if_pos i0le0, rd_n hr (by omega), e0, a, if_neg i10, rd_n hr (by omega), e1, b1]
            unfold sX3_look__57
            rw [m3, at_s, bR_s, rd_n hr (by omega), rd_n hr (by omega), rd_n hr (by omega), rd_n hr (by omega), e0, e1, a, b1, if_neg i10, if_neg i10, if_neg i10, rd_n (by omega) (by omega), rd_n (by omega) (by omega), g5, g6]
          by_cases c0 : p2 = 0
          · exact yes _ (by rw [L2, if_pos c0]) (by rw [L3, if_pos c0])
          by_cases c1 : p2 = 1
          · exact yes _ (by rw [L2, if_neg c0, if_pos c1]) (by rw [L3, if_neg c0, if_pos c1])
          by_cases c2 : p2 = 2
          · exact yes _ (by rw [L2, if_neg c0, if_neg c1, if_pos c2]) (by rw [L3, if_neg c0, if_neg c1, if_pos c2])
          · exact yes _ (by rw [L2, if_neg c0, if_neg c1, if_neg c2]) (by rw [L3, if_neg c0, if_neg c1, if_neg c2])
  · refine no ?_ ?_
    · unfold sX2_look
      rw [i2, bR_s, if_pos rfl]
    · unfold sX3_look_
      rw [i3, bR_s, if_pos rfl]
theorem field_no {f : Nat → Int32} {g : Nat → Nat → Int32} {a b d : Int32} : sX3_field_41 f g a b d = some (0, upd f 0 1, g) := by
  unfold sX3_field_41 sX3_field_42
  rw [if_neg i1le0]
set_option maxHeartbeats 1000000 in
theorem pu_field_h : pu_field RELH := by
  intro n k ad f g fm gm p1 p2 p3 hk hR
  have no : ∀ (h2 : sX2_field n ad f g p1 p2 p3 = some (1, 0)) (h3 : sX3_field fm gm p1 p2 p3 = sX3_field_41 fm gm p1 p2 p3), ∃ (k' : Nat) (r b : Int32) (fm' : Nat → Int32) (gm' : Nat → Nat → Int32), sX2_field n ad f g p1 p2 p3 = some (k', r) ∧ sX3_field fm gm p1 p2 p3 = some (b, fm', gm') ∧ fm' 0 = rq_k1 k' ∧ (k' = 0 → r = b) ∧ RELH n (k + 1) f g fm' gm' := fun h2 h3 => ⟨1, 0, 0, upd fm 0 1, gm, h2, h3.trans field_no, rfl, fun h => absurd h (by decide), rel_0 hR⟩
  have yes : ∀ (r : Int32) (h2 : sX2_field n ad f g p1 p2 p3 = some (0, r)) (h3 : sX3_field fm gm p1 p2 p3 = some (r, upd fm 0 0, gm)), ∃ (k' : Nat) (r b : Int32) (fm' : Nat → Int32) (gm' : Nat → Nat → Int32), sX2_field n ad f g p1 p2 p3 = some (k', r) ∧ sX3_field fm gm p1 p2 p3 = some (b, fm', gm') ∧ fm' 0 = rq_k1 k' ∧ (k' = 0 → r = b) ∧ RELH n (k + 1) f g fm' gm' := fun r h2 h3 => ⟨0, r, r, upd fm 0 0, gm, h2, h3, rfl, fun _ => rfl, rel_0 hR⟩
  rcases root_cases p1 with ⟨r, hr, rfl, i2, i3⟩ | ⟨i2, i3⟩
  · obtain ⟨c, u, o, sc, lg, tk, h, hl, rest⟩ := hR
    rcases field_cases (ad := ad) h.1 hr p2 with ⟨t, z, j, a0, a1, b2, rfl, hj, ⟨hb, hun, hn2, hc1⟩, hk4, q2, q3⟩ | ⟨q2, q3⟩
    · by_cases h1 : p3 < 0
      · refine no ?_ ?_
        · unfold sX2_field
          rw [i2, bR_s, if_neg i10, q2, bR_s, if_neg i10, if_pos h1]
        · unfold sX3_field
          rw [i3, bR_s, if_neg i10, if_pos h1]
      · by_cases h4 : 2 ≤ p3
        · refine no ?_ ?_
          · unfold sX2_field
            rw [i2, bR_s, if_neg i10, q2, bR_s, if_neg i10, if_neg h1, if_neg (fun q => i_le1.mp q h4)]
          · unfold sX3_field
            rw [i3, bR_s, if_neg i10, if_neg h1, if_pos h4]
        · obtain ⟨e0, e1⟩ := h.1.2.2.2.2.2.2.2.2.2.2.2.2.2.1 r hr
          have m3 : fm 3 = nI c := h.1.2.2.2.2.2.2.2.1.2.2.1.trans h.1.1.2.2.1
          have g4 := (h.1.2.2.2.2.2.2.2.2.1 (t + 1 + j) (by omega)).1
          have g5 := (h.1.2.2.2.2.2.2.2.2.2.1 (t + 1 + j) (by omega)).1
          have ei : nI t + 1 + nI j = nI (t + 1 + j) := by rw [nI_1, nI_add]
          have em : nI (400 * c + t) + 1 + nI j = nI (400 * c + (t + 1 + j)) := by rw [nI_1, nI_add, show 400 * c + t + 1 + j = 400 * c + (t + 1 + j) by omega]
          have L2 : sX2_field n ad f g (nI r) (nI j) p3 = if p3 = 0 then (if g 4 (t + 1 + j) = 0 then some (0, 0) else some (0, 1)) else some (0, g 5 (t + 1 + j)) := by
            unfold sX2_field
            rw [i2, bR_s, if_neg i10, q2, bR_s, if_neg i10, if_neg h1, if_pos (i_le1.mpr h4), rd_n hr (by omega), a1, ei, rd_n (by omega) (by omega), rd_n (by omega) (by omega)]
          have L3 : sX3_field fm gm (nI r) (nI j) p3 = if p3 = 1 then some (g 5 (t + 1 + j), upd fm 0 0, gm) else (if g 4 (t + 1 + j) = 0 then some (0, upd fm 0 0, gm) else some (1, upd fm 0 0, gm)) := by
            unfold sX3_field
            rw [i3, bR_s, if_neg i10, if_neg h1, if_neg h4, bR_s, if_neg i10]
            unfold sX3_field_30
            rw [q3, bR_s, if_neg i10]
            unfold sX3_field_42
            rw [if_pos i0le0, rd_n hr (by omega), e1, a1, m3, at_s, bR_s, em, rd_n (by omega) (by omega), rd_n (by omega) (by omega), g4, g5]
          by_cases c1 : p3 = 1
          · exact yes _ (by rw [L2, if_neg (by rw [c1]; decide)]) (by rw [L3, if_pos c1])
          · have c0 : p3 = 0 := by
              have b1 := h1
              have b2 := h4
              rw [Int32.lt_iff_toInt_lt, show (0 : Int32).toInt = 0 by decide] at b1
              rw [Int32.le_iff_toInt_le, show (2 : Int32).toInt = 2 by decide] at b2
              have b3 : p3.toInt ≠ 1 := fun q => c1 (Int32.toInt_inj.mp (by rw [q]; decide))
              refine Int32.toInt_inj.mp ?_
              rw [show (0 : Int32).toInt = 0 by decide]
              omega
            by_cases q : g 4 (t + 1 + j) = 0
            · exact yes _ (by rw [L2, if_pos c0, if_pos q]) (by rw [L3, if_neg c1, if_pos q])
            · exact yes _ (by rw [L2, if_pos c0, if_neg q]) (by rw [L3, if_neg c1, if_neg q])
    · refine no ?_ ?_
      · unfold sX2_field
        rw [i2, bR_s, if_neg i10, q2, bR_s, if_pos rfl]
      · unfold sX3_field
        rw [i3, bR_s, if_neg i10]
        by_cases h1 : p3 < 0
        · rw [if_pos h1]
        rw [if_neg h1]
        by_cases h4 : 2 ≤ p3
        · rw [if_pos h4]
        rw [if_neg h4, bR_s, if_neg i10]
        unfold sX3_field_30
        rw [q3, bR_s, if_pos rfl]
  · refine no ?_ ?_
    · unfold sX2_field
      rw [i2, bR_s, if_pos rfl]
    · unfold sX3_field
      rw [i3, bR_s, if_pos rfl]
theorem entry_no {f : Nat → Int32} {g : Nat → Nat → Int32} {a b : Int32} : sX3_entry_26 f g a b = some (0, upd f 0 1, g) := by
  unfold sX3_entry_26 sX3_entry_27
  rw [if_neg i1le0]
set_option maxHeartbeats 1000000 in
theorem pu_entry_h : pu_entry RELH := by
  intro n k ad f g fm gm p1 p2 hk hR
  have no : ∀ (h2 : sX2_entry n ad f g p1 p2 = some (1, 0)) (h3 : sX3_entry fm gm p1 p2 = sX3_entry_26 fm gm p1 p2), ∃ (k' : Nat) (r b : Int32) (fm' : Nat → Int32) (gm' : Nat → Nat → Int32), sX2_entry n ad f g p1 p2 = some (k', r) ∧ sX3_entry fm gm p1 p2 = some (b, fm', gm') ∧ fm' 0 = rq_k1 k' ∧ (k' = 0 → r = b) ∧ RELH n (k + 1) f g fm' gm' := fun h2 h3 => ⟨1, 0, 0, upd fm 0 1, gm, h2, h3.trans entry_no, rfl, fun h => absurd h (by decide), rel_0 hR⟩
  have yes : ∀ (r : Int32) (h2 : sX2_entry n ad f g p1 p2 = some (0, r)) (h3 : sX3_entry fm gm p1 p2 = some (r, upd fm 0 0, gm)), ∃ (k' : Nat) (r b : Int32) (fm' : Nat → Int32) (gm' : Nat → Nat → Int32), sX2_entry n ad f g p1 p2 = some (k', r) ∧ sX3_entry fm gm p1 p2 = some (b, fm', gm') ∧ fm' 0 = rq_k1 k' ∧ (k' = 0 → r = b) ∧ RELH n (k + 1) f g fm' gm' := fun r h2 h3 => ⟨0, r, r, upd fm 0 0, gm, h2, h3, rfl, fun _ => rfl, rel_0 hR⟩
  obtain ⟨c, u, o, sc, lg, tk, h, hl, rest⟩ := hR
  have hlg : lg ≤ 512 := h.1.1.1.2.2.2.2.2
  have f10 : f 10 = nI lg := h.1.1.2.2.2.2.2.2.1
  have s6 : fm 6 = nI lg := h.1.2.2.2.2.2.2.2.1.2.2.2.2.2.1.trans f10
  by_cases h1 : p1 < 0
  · refine no ?_ ?_
    · unfold sX2_entry
      rw [if_pos h1]
    · unfold sX3_entry
      rw [if_pos h1]
  obtain ⟨i, hi, rfl⟩ := nI_of h1
  by_cases h2 : nI lg ≤ nI i
  · refine no ?_ ?_
    · unfold sX2_entry
      rw [if_neg h1, f10, if_pos h2]
    · unfold sX3_entry
      rw [if_neg h1, s6, if_pos h2]
  have hil : i < lg := Nat.not_le.mp fun q => h2 (nI_le q hi)
  by_cases h3 : p2 < 0
  · refine no ?_ ?_
    · unfold sX2_entry
      rw [if_neg h1, f10, if_neg h2, if_pos h3]
    · unfold sX3_entry
      rw [if_neg h1, s6, if_neg h2, if_pos h3]
  by_cases h4 : 2 ≤ p2
  · refine no ?_ ?_
    · unfold sX2_entry
      rw [if_neg h1, f10, if_neg h2, if_neg h3, if_neg (fun q => i_le1.mp q h4)]
    · unfold sX3_entry
      rw [if_neg h1, s6, if_neg h2, if_neg h3, if_pos h4]
  obtain ⟨e6, e7⟩ := h.1.2.2.2.2.2.2.2.2.2.2.2.2.2.2 i hil
  have L2 : sX2_entry n ad f g (nI i) p2 = if p2 = 0 then some (0, g 2 i) else some (0, g 3 i) := by
    unfold sX2_entry
    rw [if_neg h1, f10, if_neg h2, if_neg h3, if_pos (i_le1.mpr h4), rd_n (by omega) (by omega), rd_n (by omega) (by omega)]
  have L3 : sX3_entry fm gm (nI i) p2 = if p2 = 0 then some (g 2 i, upd fm 0 0, gm) else some (g 3 i, upd fm 0 0, gm) := by
    unfold sX3_entry
    rw [if_neg h1, s6, if_neg h2, if_neg h3, if_neg h4]
    unfold sX3_entry_27
    rw [if_pos i0le0, rd_n (by omega) (by omega), rd_n (by omega) (by omega), e6, e7]
  by_cases c0 : p2 = 0
  · exact yes _ (by rw [L2, if_pos c0]) (by rw [L3, if_pos c0])
  · exact yes _ (by rw [L2, if_neg c0]) (by rw [L3, if_neg c0])
theorem cell_no {f : Nat → Int32} {g : Nat → Nat → Int32} {a b d : Int32} : sX3_cell_58 f g a b d = some (0, upd f 0 1, g) := by
  unfold sX3_cell_58 sX3_cell_59
  rw [if_neg i1le0]
theorem cell_no2 {f : Nat → Int32} {g : Nat → Nat → Int32} {a b d : Int32} : sX3_cell_26 f g a b d = some (0, upd f 0 1, g) := by
  unfold sX3_cell_26 sX3_cell_27
  rw [if_pos rfl, cell_no]
/-- the reference's cell, the space being one of the two -/
theorem cell_9 {f : Nat → Int32} {g : Nat → Nat → Int32} {b d : Int32} {s : Nat} (hs : s ≤ 1) : sX3_cell f g (nI s) b d = sX3_cell_9 f g (nI s) b d := by
  unfold sX3_cell
  rcases Nat.le_one_iff_eq_zero_or_eq_one.mp hs with rfl | rfl
  · rw [if_pos (by decide)]
  · rw [if_neg (by decide), if_pos (by decide)]
set_option maxHeartbeats 1000000 in
theorem pu_cell_h : pu_cell RELH := by
  intro n k ad f g fm gm p1 p2 p3 hk hR
  have no : ∀ (h2 : sX2_cell n ad f g p1 p2 p3 = some (1, 0)) (h3 : sX3_cell fm gm p1 p2 p3 = some (0, upd fm 0 1, gm)), ∃ (k' : Nat) (r b : Int32) (fm' : Nat → Int32) (gm' : Nat → Nat → Int32), sX2_cell n ad f g p1 p2 p3 = some (k', r) ∧ sX3_cell fm gm p1 p2 p3 = some (b, fm', gm') ∧ fm' 0 = rq_k1 k' ∧ (k' = 0 → r = b) ∧ RELH n (k + 1) f g fm' gm' := fun h2 h3 => ⟨1, 0, 0, upd fm 0 1, gm, h2, h3, rfl, fun h => absurd h (by decide), rel_0 hR⟩
  have yes : ∀ (r : Int32) (h2 : sX2_cell n ad f g p1 p2 p3 = some (0, r)) (h3 : sX3_cell fm gm p1 p2 p3 = some (r, upd fm 0 0, gm)), ∃ (k' : Nat) (r b : Int32) (fm' : Nat → Int32) (gm' : Nat → Nat → Int32), sX2_cell n ad f g p1 p2 p3 = some (k', r) ∧ sX3_cell fm gm p1 p2 p3 = some (b, fm', gm') ∧ fm' 0 = rq_k1 k' ∧ (k' = 0 → r = b) ∧ RELH n (k + 1) f g fm' gm' := fun r h2 h3 => ⟨0, r, r, upd fm 0 0, gm, h2, h3, rfl, fun _ => rfl, rel_0 hR⟩
  by_cases hs : ∃ s : Nat, s ≤ 1 ∧ p1 = nI s
  · obtain ⟨s, hs1, rfl⟩ := hs
    have a1 : ¬ nI s < 0 := nI_pos (by omega)
    have a2 : ¬ 1 < nI s := fun q => absurd ((nI_ltI (a := 1) (by decide) (by omega)).mp q) (by omega)
    have hc9 := cell_9 (f := fm) (g := gm) (b := p2) (d := p3) hs1
    by_cases h3 : p3 < 0
    · refine no ?_ ?_
      · unfold sX2_cell
        rw [if_neg a1, if_neg a2, if_pos h3]
      · rw [hc9]
        unfold sX3_cell_9
        rw [if_pos h3, cell_no2]
    by_cases h4 : 3 ≤ p3
    · refine no ?_ ?_
      · unfold sX2_cell
        rw [if_neg a1, if_neg a2, if_neg h3, if_neg (fun q => i_le2.mp q h4)]
      · rw [hc9]
        unfold sX3_cell_9
        rw [if_neg h3, if_pos h4, cell_no2]
    have h4' : p3 ≤ 2 := i_le2.mpr h4
    obtain ⟨c, u, o, sc, lg, tk, h, hl, rest⟩ := hR
    obtain ⟨⟨⟨hn1, hn2, hc1, hun, htk1, hlg⟩, f0, f12, f14, f13, f15, f10, f11⟩, iU, iH, iO, iR, iG, iL, rS, ra0, ra1, ra2, rc, ro, rr, rl⟩ := h.1
    have hlen : o ≤ n := by have := iU.1; omega
    by_cases h5 : p2 < 0
    · refine no ?_ ?_
      · unfold sX2_cell
        rw [if_neg a1, if_neg a2, if_neg h3, if_pos h4', if_pos h5, if_pos h5]
        split <;> rfl
      · rw [hc9]
        unfold sX3_cell_9
        rw [if_neg h3, if_neg h4, if_pos h5, cell_no2]
    obtain ⟨j, hj, rfl⟩ := nI_of h5
    have hc27 : sX3_cell fm gm (nI s) (nI j) p3 = sX3_cell_50 fm gm (nI s) (nI j) p3 (nI j) (nI s) := by
      rw [hc9]
      unfold sX3_cell_9
      rw [if_neg h3, if_neg h4, if_neg h5]
      unfold sX3_cell_27
      rw [if_neg i10, if_neg i10]
    have ans : ∀ (K V R : Int32), gm 0 (400 * s + j) = K → gm 1 (400 * s + j) = V → gm 2 (400 * s + j) = R → j < 400 → sX3_cell_59 fm gm (nI s) (nI j) p3 0 = if p3 = 0 then some (K, upd fm 0 0, gm) else if p3 = 1 then some (V, upd fm 0 0, gm) else if K = 3 then some (R, upd fm 0 0, gm) else some (-1, upd fm 0 0, gm) := by
      intro K V R hK hV hR hj4
      unfold sX3_cell_59
      rw [if_pos i0le0, at_s, bR_s, rd_n (by omega) (by omega), rd_n (by omega) (by omega), rd_n (by omega) (by omega), rd_n (by omega) (by omega), hK, hV, hR]
    have fin : ∀ (K V R : Int32), sX2_cell n ad f g (nI s) (nI j) p3 = (if p3 = 0 then some (0, K) else if p3 = 1 then some (0, V) else if K = 3 then some (0, R) else some (0, -1)) → sX3_cell fm gm (nI s) (nI j) p3 = (if p3 = 0 then some (K, upd fm 0 0, gm) else if p3 = 1 then some (V, upd fm 0 0, gm) else if K = 3 then some (R, upd fm 0 0, gm) else some (-1, upd fm 0 0, gm)) → ∃ (k' : Nat) (r b : Int32) (fm' : Nat → Int32) (gm' : Nat → Nat → Int32), sX2_cell n ad f g (nI s) (nI j) p3 = some (k', r) ∧ sX3_cell fm gm (nI s) (nI j) p3 = some (b, fm', gm') ∧ fm' 0 = rq_k1 k' ∧ (k' = 0 → r = b) ∧ RELH n (k + 1) f g fm' gm' := by
      intro K V R L2 L3
      by_cases c0 : p3 = 0
      · exact yes _ (by rw [L2, if_pos c0]) (by rw [L3, if_pos c0])
      by_cases c1 : p3 = 1
      · exact yes _ (by rw [L2, if_neg c0, if_pos c1]) (by rw [L3, if_neg c0, if_pos c1])
      by_cases c2 : K = 3
      · exact yes _ (by rw [L2, if_neg c0, if_neg c1, if_pos c2]) (by rw [L3, if_neg c0, if_neg c1, if_pos c2])
      · exact yes _ (by rw [L2, if_neg c0, if_neg c1, if_neg c2]) (by rw [L3, if_neg c0, if_neg c1, if_neg c2])
    by_cases hsc : s = c
    · subst hsc
      by_cases hju : j < u
      · have l1 : nI j < nI u := nI_lt hju (by omega)
        have l2 : ¬ nI u ≤ nI j := fun q => absurd ((nI_leI (by omega) hj).mp q) (by omega)
        refine fin (g 4 j) (g 5 j) (g 6 j) ?_ ?_
        · unfold sX2_cell
          rw [if_neg a1, if_neg a2, if_neg h3, if_pos h4', f12, if_pos rfl, if_neg h5, f13, if_pos l1, rd_n (by omega) (by omega), rd_n (by omega) (by omega), rd_n (by omega) (by omega), rd_n (by omega) (by omega)]
        · rw [hc27]
          unfold sX3_cell_50
          rw [rd_n (by omega) (by omega), rc, f13, if_neg l2]
          exact ans _ _ _ (ra0 j (by omega)).1 (ra1 j (by omega)).1 (ra2 j (by omega)).1 (by omega)
      · have l1 : ¬ nI j < nI u := fun q => hju ((nI_ltI hj (by omega)).mp q)
        have l2 : nI u ≤ nI j := nI_le (by omega) hj
        refine no ?_ ?_
        · unfold sX2_cell
          rw [if_neg a1, if_neg a2, if_neg h3, if_pos h4', f12, if_pos rfl, if_neg h5, f13, if_neg l1]
        · rw [hc27]
          unfold sX3_cell_50
          rw [rd_n (by omega) (by omega), rc, f13, if_pos l2, cell_no]
    · have es : s = 1 - c := by omega
      have hne : ¬ nI s = nI c := fun q => hsc (nI_inj (by omega) (by omega) q)
      by_cases hju : j < o
      · have l1 : nI j < nI o := nI_lt hju (by omega)
        have l2 : ¬ nI o ≤ nI j := fun q => absurd ((nI_leI (by omega) hj).mp q) (by omega)
        refine fin (g 7 j) (g 8 j) (g 9 j) ?_ ?_
        · unfold sX2_cell
          rw [if_neg a1, if_neg a2, if_neg h3, if_pos h4', f12, if_neg hne, if_neg h5, f15, if_pos l1, rd_n (by omega) (by omega), rd_n (by omega) (by omega), rd_n (by omega) (by omega), rd_n (by omega) (by omega)]
        · rw [hc27]
          unfold sX3_cell_50
          rw [rd_n (by omega) (by omega), show gm 3 s = nI o by rw [es, ro, f15], if_neg l2]
          exact ans _ _ _ (by rw [es]; exact (ra0 j (by omega)).2 (by omega)) (by rw [es]; exact (ra1 j (by omega)).2 (by omega)) (by rw [es]; exact (ra2 j (by omega)).2 (by omega)) (by omega)
      · have l1 : ¬ nI j < nI o := fun q => hju ((nI_ltI hj (by omega)).mp q)
        have l2 : nI o ≤ nI j := nI_le (by omega) hj
        refine no ?_ ?_
        · unfold sX2_cell
          rw [if_neg a1, if_neg a2, if_neg h3, if_pos h4', f12, if_neg hne, if_neg h5, f15, if_neg l1]
        · rw [hc27]
          unfold sX3_cell_50
          rw [rd_n (by omega) (by omega), show gm 3 s = nI o by rw [es, ro, f15], if_pos l2, cell_no]
  · refine no ?_ ?_
    · unfold sX2_cell
      by_cases a1 : p1 < 0
      · rw [if_pos a1]
      · obtain ⟨j, hj, rfl⟩ := nI_of a1
        rw [if_neg a1, if_pos]
        exact nI_lt (a := 1) (Nat.not_le.mp fun q => hs ⟨j, q, rfl⟩) hj
    · unfold sX3_cell
      rw [if_neg (show ¬ p1 = 0 from fun q => hs ⟨0, by omega, q⟩), if_neg (show ¬ p1 = 1 from fun q => hs ⟨1, by omega, q⟩), cell_no2]
