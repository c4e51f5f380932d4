/-! Arrays.fill -/
theorem fillI_loop {N : Nat} (hN : N ≤ 1000000) (v : Int32) (kk : Int32 → (Nat → Int32) → Option (Nat → Int32)) : ∀ (d i f : Nat) (a : Nat → Int32), i + d = N → d < f → (∀ j, j < i → a j = v) → ∃ a' : Nat → Int32, f_Arrays_fillI_L5 N v kk f (nI i) a = kk (nI N) a' ∧ (∀ j, j < N → a' j = v) ∧ ∀ j, N ≤ j → a' j = a j
  | 0, i, f, a, hi, hf, h => by
    obtain ⟨f, rfl⟩ : ∃ g, f = g + 1 := ⟨f - 1, by omega⟩
    have : i = N := by omega
    subst this
    have q : Int32.ofNat i ≤ nI i := nI_le (Nat.le_refl _) (by omega)
    exact ⟨a, by rw [f_Arrays_fillI_L5_s, ifT q], h, fun _ _ => rfl⟩
  | d + 1, i, f, a, hi, hf, h => by
    obtain ⟨f, rfl⟩ : ∃ g, f = g + 1 := ⟨f - 1, by omega⟩
    obtain ⟨a', r1, r2, r3⟩ := fillI_loop hN v kk d (i + 1) f (upd a i v) (by omega) (by omega) (fun j hj => by
      by_cases z : j = i
      · subst z; rw [pk_us]
      · rw [pk_un z]; exact h j (by omega))
    refine ⟨a', ?_, r2, fun j hj => by rw [r3 j hj, pk_un (by omega)]⟩
    have q : ¬ Int32.ofNat N ≤ nI i := nI_ge (by omega) (by omega)
    rw [f_Arrays_fillI_L5_s, ifF q, ifT (inB_nI (by omega) (by omega)), nI_clamp (by omega), nI_1]
    exact r1
theorem fillI_ok {N fu : Nat} (hN : N ≤ 1000000) (hfu : N < fu) (v : Int32) (a : Nat → Int32) : ∃ a' : Nat → Int32, f_Arrays_fillI fu N v a = some a' ∧ (∀ j, j < N → a' j = v) ∧ ∀ j, N ≤ j → a' j = a j := by
  obtain ⟨a', r1, r2, r3⟩ := fillI_loop hN v (fun _ x => some x) N 0 fu a (by omega) (by omega) (fun j hj => by omega)
  exact ⟨a', r1, r2, r3⟩
theorem fillJ_loop {N : Nat} (hN : N ≤ 1000000) (v : Int64) (kk : Int32 → (Nat → Int64) → Option (Nat → Int64)) : ∀ (d i f : Nat) (a : Nat → Int64), i + d = N → d < f → (∀ j, j < i → a j = v) → ∃ a' : Nat → Int64, f_Arrays_fillJ_L6 N v kk f (nI i) a = kk (nI N) a' ∧ (∀ j, j < N → a' j = v) ∧ ∀ j, N ≤ j → a' j = a j
  | 0, i, f, a, hi, hf, h => by
    obtain ⟨f, rfl⟩ : ∃ g, f = g + 1 := ⟨f - 1, by omega⟩
    have : i = N := by omega
    subst this
    have q : Int32.ofNat i ≤ nI i := nI_le (Nat.le_refl _) (by omega)
    exact ⟨a, by rw [f_Arrays_fillJ_L6_s, ifT q], h, fun _ _ => rfl⟩
  | d + 1, i, f, a, hi, hf, h => by
    obtain ⟨f, rfl⟩ : ∃ g, f = g + 1 := ⟨f - 1, by omega⟩
    obtain ⟨a', r1, r2, r3⟩ := fillJ_loop hN v kk d (i + 1) f (vp_updL a i v) (by omega) (by omega) (fun j hj => by
      by_cases z : j = i
      · subst z; rw [pk_uLs]
      · rw [pk_uLn z]; exact h j (by omega))
    refine ⟨a', ?_, r2, fun j hj => by rw [r3 j hj, pk_uLn (by omega)]⟩
    have q : ¬ Int32.ofNat N ≤ nI i := nI_ge (by omega) (by omega)
    rw [f_Arrays_fillJ_L6_s, ifF q, ifT (inB_nI (by omega) (by omega)), nI_clamp (by omega), nI_1]
    exact r1
theorem fillJ_ok {N fu : Nat} (hN : N ≤ 1000000) (hfu : N < fu) (v : Int64) (a : Nat → Int64) : ∃ a' : Nat → Int64, f_Arrays_fillJ fu N v a = some a' ∧ (∀ j, j < N → a' j = v) ∧ ∀ j, N ≤ j → a' j = a j := by
  obtain ⟨a', r1, r2, r3⟩ := fillJ_loop hN v (fun _ x => some x) N 0 fu a (by omega) (by omega) (fun j hj => by omega)
  exact ⟨a', r1, r2, r3⟩
