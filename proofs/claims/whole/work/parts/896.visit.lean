/-! numbering states: each set that is come to gives its kind a number, once -/
abbrev VQ : Type := Nat × (Nat → Option Nat) × (Nat → Nat)
def vis (kn : Nat → Nat) (x : Nat) (q : VQ) : VQ := match q.2.1 (kn x) with
  | some _ => q
  | none => (q.1 + 1, va_up q.2.1 (kn x) (some q.1), va_up q.2.2 q.1 x)
def visN (kn : Nat → Nat) (xs : Nat → Nat) (q : VQ) : Nat → VQ
  | 0 => q
  | n + 1 => vis kn (xs n) (visN kn xs q n)
theorem vis_some {kn : Nat → Nat} {x v : Nat} {q : VQ} (h : q.2.1 (kn x) = some v) : vis kn x q = q := by unfold vis; rw [h]
theorem vis_none {kn : Nat → Nat} {x : Nat} {q : VQ} (h : q.2.1 (kn x) = none) : vis kn x q = (q.1 + 1, va_up q.2.1 (kn x) (some q.1), va_up q.2.2 q.1 x) := by unfold vis; rw [h]
theorem vis_seen (kn : Nat → Nat) (x : Nat) (q : VQ) : ∃ v, (vis kn x q).2.1 (kn x) = some v := by
  cases h : q.2.1 (kn x) with
  | some v => exact ⟨v, by rw [vis_some h, h]⟩
  | none => exact ⟨q.1, by rw [vis_none h]; exact up_s⟩
theorem vis_keep {kn : Nat → Nat} {x k v : Nat} {q : VQ} (h : q.2.1 k = some v) : (vis kn x q).2.1 k = some v := by
  cases h2 : q.2.1 (kn x) with
  | some w => rw [vis_some h2, h]
  | none =>
    rw [vis_none h2]
    have : k ≠ kn x := fun e => by rw [e, h2] at h; cases h
    show va_up q.2.1 (kn x) (some q.1) k = some v
    rw [up_n this, h]
theorem visN_keep {kn xs : Nat → Nat} {k v : Nat} {q : VQ} (h : q.2.1 k = some v) : ∀ n, (visN kn xs q n).2.1 k = some v
  | 0 => h
  | n + 1 => vis_keep (visN_keep h n)
theorem visN_seen {kn xs : Nat → Nat} {q : VQ} : ∀ n c, c < n → ∃ v, (visN kn xs q n).2.1 (kn (xs c)) = some v
  | 0, c, h => by omega
  | n + 1, c, h => by
    by_cases e : c = n
    · subst e; exact vis_seen kn (xs c) _
    · obtain ⟨v, hv⟩ := visN_seen (q := q) (kn := kn) (xs := xs) n c (by omega)
      exact ⟨v, vis_keep hv⟩
theorem vis_again {kn xs : Nat → Nat} {q : VQ} {n c : Nat} (h : c < n) : vis kn (xs c) (visN kn xs q n) = visN kn xs q n := by
  obtain ⟨v, hv⟩ := visN_seen (q := q) (kn := kn) (xs := xs) n c h
  exact vis_some hv
/-- how many columns stand before byte b, where columns are numbered as they are come to -/
def mcol (co : Nat → Nat) : Nat → Nat
  | 0 => 0
  | b + 1 => if co b < mcol co b then mcol co b else mcol co b + 1
def ColsOK (co : Nat → Nat) (C : Nat) : Prop := (∀ b, b < 256 → co b ≤ mcol co b) ∧ mcol co 256 = C
theorem mcol_gt {co : Nat → Nat} {C : Nat} (h : ColsOK co C) {b : Nat} (hb : b < 256) : co b < mcol co (b + 1) := by
  have := h.1 b hb
  rw [mcol]
  split <;> omega
theorem mcol_mono (co : Nat → Nat) : ∀ a b, a ≤ b → mcol co a ≤ mcol co b
  | a, 0, h => by have : a = 0 := by omega
                  subst this; exact Nat.le_refl _
  | a, b + 1, h => by
    by_cases e : a = b + 1
    · subst e; exact Nat.le_refl _
    · have := mcol_mono co a b (by omega)
      rw [mcol]
      split <;> omega
theorem co_lt {co : Nat → Nat} {C : Nat} (h : ColsOK co C) {b : Nat} (hb : b < 256) : co b < C := by
  have h1 := mcol_gt h hb
  have h2 := mcol_mono co (b + 1) 256 (by omega)
  rw [h.2] at h2
  omega
/-- going by bytes is going by columns -/
theorem vis_byte {kn xs co : Nat → Nat} {C : Nat} {q : VQ} (h : ColsOK co C) {b : Nat} (hb : b < 256) : vis kn (xs (co b)) (visN kn xs q (mcol co b)) = visN kn xs q (mcol co (b + 1)) := by
  by_cases z : co b < mcol co b
  · rw [vis_again z, show mcol co (b + 1) = mcol co b by rw [mcol, if_pos z]]
  · have e : co b = mcol co b := by have := h.1 b hb; omega
    rw [show mcol co (b + 1) = mcol co b + 1 by rw [mcol, if_neg z], visN, e]
