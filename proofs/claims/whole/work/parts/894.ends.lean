/-! the rounds end, and the class's rounds -/
section EN
variable {M C : Nat} {ld : Nat → Nat → Nat} {K : Nat → Int32}
theorem FN_ex (C : Nat) (ld : Nat → Nat → Nat) (K : Nat → Int32) (M : Nat) : ∃ fin, FN C ld K M fin := by
  refine ⟨fun i => nwc C ld K (Classical.choose (first_of (C := C) (ld := ld) (K := K) i)), fun i hi => ?_⟩
  obtain ⟨a1, a2, a3⟩ := Classical.choose_spec (first_of (C := C) (ld := ld) (K := K) i)
  by_cases hn : isnew C ld K i
  · exact Or.inl ⟨hn, congrArg (nwc C ld K) (new_eq a2 hn a3)⟩
  · refine Or.inr ⟨Classical.choose (first_of (C := C) (ld := ld) (K := K) i), ?_, a3, ?_⟩
    · rcases Nat.lt_or_eq_of_le a1 with q | q
      · exact q
      · exact absurd (by rw [q] at a2; exact a2) hn
    · obtain ⟨b1, b2, b3⟩ := Classical.choose_spec (first_of (C := C) (ld := ld) (K := K) (Classical.choose (first_of (C := C) (ld := ld) (K := K) i)))
      exact congrArg (nwc C ld K) (new_eq b2 a2 b3).symm
theorem Ends_ex (C : Nat) (ld : Nat → Nat → Nat) (M : Nat) : ∀ (g n0 : Nat) (K : Nat → Int32), n0 ≤ M → M < n0 + g → ∃ kn, Ends C ld M g n0 K kn
  | 0, n0, K, h1, h2 => by omega
  | g + 1, n0, K, h1, h2 => by
    obtain ⟨fin, hF⟩ := FN_ex C ld K M
    have hle := nwc_le (C := C) (ld := ld) (K := K) M
    by_cases h : nwc C ld K M ≤ n0
    · exact ⟨fin, fin, hF, Or.inl ⟨h, fun _ _ => rfl⟩⟩
    · obtain ⟨kn, hk⟩ := Ends_ex C ld M g (nwc C ld K M) (fun i => nI (fin i)) hle (by omega)
      exact ⟨kn, fin, hF, Or.inr ⟨by omega, hk⟩⟩
theorem Ends_lt : ∀ (g n0 : Nat) (K : Nat → Int32) (kn : Nat → Nat), Ends C ld M g n0 K kn → ∀ i, i < M → kn i < M
  | 0, _, _, _, h => h.elim
  | g + 1, n0, K, kn, ⟨fin, hF, h⟩ => fun i hi => by
    rcases h with ⟨-, h⟩ | ⟨-, h⟩
    · rw [h i hi]
      have := hF.lt hi
      have := nwc_le (C := C) (ld := ld) (K := K) M
      omega
    · exact Ends_lt g _ _ kn h i hi
theorem roundsC {ss_leads : Nat → Int32} (hM : M ≤ 120) (hC : C ≤ 95) (hld : ∀ i c, i < M → c < C → ld i c < M) (hl : ∀ i c, i < M → c < C → ss_leads (i * 95 + c) = nI (ld i c)) {fu : Nat} (hfu : 300 ≤ fu) (kk : Int32 → Int32 → Int32 → (Nat → Int32) → (Nat → Int32) → (Nat → Int32) → Option (Int32 × Int32 × Int32 × (Nat → Int32) × (Nat → Int32) × (Nat → Int32) × (Nat → Int32) × (Nat → Int32) × (Nat → Int32) × Int32 × (Nat → Int64) × (Nat → Int32) × (Nat → Int32))) : ∀ (g i f n0 : Nat) (K ki fi le : Nat → Int32) (kn : Nat → Nat), Ends C ld M g n0 K kn → (∀ j, j < M → K j = ki j) → n0 ≤ 1000 → i + g ≤ 121 → g + 1 < f →
    ∃ (x y z : Int32) (ki' fi' le' : Nat → Int32), f_Table_make_L25 (nI C) (nI M) ss_leads fu kk f (nI i) 1 (nI n0) ki fi le = kk x y z ki' fi' le' ∧ ∀ j, j < M → ki' j = nI (kn j)
  | 0, i, f, n0, K, ki, fi, le, kn, hE, hK, hn, hi, hf => hE.elim
  | g + 1, i, f, n0, K, ki, fi, le, kn, hE, hK, hn, hi, hf => by
    obtain ⟨f, rfl⟩ : ∃ g', f = g' + 1 := ⟨f - 1, by omega⟩
    obtain ⟨fin, hF, hE⟩ := hE
    have hF' := hF.congr hld hK
    have hnw := nwc_congr hld hK M (Nat.le_refl _)
    have hle := nwc_le (C := C) (ld := ld) (K := K) M
    obtain ⟨K1, fi1, le1, fin1, r1, r2, r3⟩ := part_ok (K := ki) hM hC hld hl (by omega : 200 ≤ fu) n0 hn fi le
    have hone := r2.one hF'
    have hk1 : ∀ j, j < M → K1 j = nI (fin j) := fun j hj => by rw [r3 j hj, hone j hj]
    have hq : ¬ (120 : Int32) < nI i := Int32.not_lt.mpr ((leL (b := 120) 120 rfl (by omega) (by omega)).mpr (by omega))
    have e : f_Table_make_L25 (nI C) (nI M) ss_leads fu kk (f + 1) (nI i) 1 (nI n0) ki fi le = f_Table_make_L25 (nI C) (nI M) ss_leads fu kk f (nI (i + 1)) (if nwc C ld K M ≤ n0 then 0 else 1) (nI (nwc C ld K M)) K1 fi1 le1 := by
      rw [f_Table_make_L25_s, ifF hq, ifF (by decide), r1, nI_1, hnw]
      rfl
    rw [e]
    rcases hE with ⟨h1, h2⟩ | ⟨h1, h2⟩
    · obtain ⟨f, rfl⟩ : ∃ g', f = g' + 1 := ⟨f - 1, by omega⟩
      rw [if_pos h1, f_Table_make_L25_s]
      by_cases q : (120 : Int32) < nI (i + 1)
      · rw [ifT q]
        exact ⟨_, _, _, K1, fi1, le1, rfl, fun j hj => by rw [hk1 j hj, h2 j hj]⟩
      · rw [ifF q, ifT rfl]
        exact ⟨_, _, _, K1, fi1, le1, rfl, fun j hj => by rw [hk1 j hj, h2 j hj]⟩
    · rw [if_neg (by omega)]
      exact roundsC hM hC hld hl hfu kk g (i + 1) f (nwc C ld K M) (fun j => nI (fin j)) K1 fi1 le1 kn h2 (fun j hj => (hk1 j hj).symm) (by omega) (by omega) (by omega)
end EN
