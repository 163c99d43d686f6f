theorem ck_q_nat (p2 : Int32) : ∃ q : Nat, 1 ≤ q ∧ q ≤ 64 ∧ ck_q p2 = nI q := by
  unfold ck_q
  split
  · exact ⟨4, by decide, by decide, rfl⟩
  · next h1 =>
    split
    · exact ⟨4, by decide, by decide, rfl⟩
    · next h2 =>
      have a1 : ¬ p2.toInt < 1 := fun q => h1 (Int32.lt_iff_toInt_lt.mpr q)
      have a2 : ¬ 64 < p2.toInt := fun q => h2 (Int32.lt_iff_toInt_lt.mpr q)
      obtain ⟨j, hj, ej⟩ := nI_of (x := p2) (fun q => h1 (by
        have := Int32.lt_iff_toInt_lt.mp q
        exact Int32.lt_iff_toInt_lt.mpr (Int.lt_trans this (by decide))))
      have e3 : p2.toInt = (j : Int) := by rw [ej]; exact nI_toInt hj
      exact ⟨j, by omega, by omega, ej⟩
theorem pu_start_h : pu_start RELH := by
  intro n p1 p2 h1 h2 hn
  obtain ⟨q, hq1, hq2, hq⟩ := ck_q_nat p2
  refine ⟨0, 0, 0, 0, 0, 0, ⟨⟨⟨⟨h1, h2, by omega, by omega, by omega, by omega⟩, hn, rfl, rfl, rfl, rfl, rfl, rfl⟩, ⟨Nat.le_refl _, Nat.le_refl _⟩, fun p hp => absurd hp (by omega), fun p hp => absurd hp (by omega), fun p z hp => absurd hp.1 (by omega), fun r hr => Or.inl rfl, fun i hi => absurd hi (by omega), ⟨rfl, rfl, rfl, rfl, rfl, rfl, rfl, rfl, rfl, rfl⟩, fun p hp => ⟨rfl, fun _ => rfl⟩, fun p hp => ⟨rfl, fun _ => rfl⟩, fun p hp => ⟨rfl, fun _ => rfl⟩, rfl, rfl, fun r hr => ⟨rfl, rfl⟩, fun i hi => ⟨rfl, rfl⟩⟩, rfl, Nat.le_refl _, Or.inr ⟨rfl, rfl, rfl, rfl, rfl, fun p z hp => absurd hp.1 (by omega)⟩⟩, Nat.zero_le _, rfl, rfl, by show ¬ (0 : Int32) < 0; decide, q, hq1, hq2, hq⟩
theorem pu_all : PU RELH := ⟨⟨pu_alloc_h, pu_put_h, pu_putNumber_h, pu_get_h, pu_move_h, pu_number_h⟩, ⟨pu_collect_h, pu_look_h, pu_field_h, pu_cell_h, pu_entry_h, pu_count_h⟩, pu_skip_h, pu_start_h⟩
