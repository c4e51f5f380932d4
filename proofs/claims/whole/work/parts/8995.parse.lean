/-! a glob's text, unit by unit: what both sides read. Sets of bytes are sets of symbols. -/
abbrev SS : Type := Nat → Bool
def chr_ (t : Nat → Nat) (n k : Nat) : Nat := if k < n then t k else 0
def isEl (c : Nat) : Bool := decide (¬ c = 0 ∧ ¬ c = 91 ∧ ¬ c = 93 ∧ ¬ c = 94 ∧ ¬ c = 45 ∧ ¬ c = 92)
def seti (S : SS) (lo hi : Nat) (v : Bool) : SS := fun s => if lo ≤ s ∧ s ≤ hi then v else S s
def el1 (t : Nat → Nat) (n k : Nat) : Nat ⊕ (Nat × Nat × Nat) :=
  if isEl (chr_ t n k) = true then (if chr_ t n (k + 1) = 45 then (if isEl (chr_ t n (k + 2)) = true ∧ chr_ t n k ≤ chr_ t n (k + 2) then .inr (k + 3, chr_ t n k, chr_ t n (k + 2)) else .inl (k + 2)) else .inr (k + 1, chr_ t n k, chr_ t n k)) else .inl k
def be (t : Nat → Nat) (n : Nat) (v : Bool) : Nat → Nat → SS → Nat ⊕ (SS × Nat)
  | 0, _, _ => .inl n
  | f + 1, k, S => if chr_ t n k = 93 then .inr (S, k) else (match el1 t n k with
    | .inl j => .inl j
    | .inr q => be t n v f q.1 (seti S (q.2.1 - 32) (q.2.2 - 32) v))
def bk0 (t : Nat → Nat) (n a : Nat) : Nat := if chr_ t n (a + 1) = 94 then a + 2 else a + 1
def bot (t : Nat → Nat) (n a : Nat) : Bool := decide (chr_ t n (a + 1) = 94)
def br (t : Nat → Nat) (n a : Nat) : Nat ⊕ (SS × Nat) :=
  if isEl (chr_ t n (bk0 t n a)) = true then (match be t n (!bot t n a) 41 (bk0 t n a) (fun _ => bot t n a) with
    | .inl j => .inl j
    | .inr q => .inr (seti q.1 15 15 false, q.2 + 1)) else .inl (bk0 t n a)
def one_ (c : Nat) : SS := seti (fun _ => false) (c - 32) (c - 32) true
def nosl : SS := seti (fun _ => true) 15 15 false
def un (t : Nat → Nat) (n a dp : Nat) (rw_ : Bool) : Nat ⊕ (Nat × Bool × SS × Nat) :=
  if t a = 123 then (if dp < 2 then .inr (1, false, nosl, a + 1) else .inl a)
  else if t a = 125 then (if 0 < dp ∧ rw_ = true then .inr (3, false, nosl, a + 1) else .inl a)
  else if t a = 93 then .inl a
  else if t a = 44 ∧ 0 < dp then .inr (2, false, nosl, a + 1)
  else if t a = 92 then (if a + 1 < n then .inr (0, false, one_ (t (a + 1)), a + 2) else .inl n)
  else if t a = 63 then .inr (0, false, nosl, a + 1)
  else if t a = 42 then (if chr_ t n (a + 1) = 42 then .inr (0, true, (fun _ => true), a + 2) else .inr (0, true, nosl, a + 1))
  else if t a = 91 then (match br t n a with
    | .inl j => .inl j
    | .inr q => .inr (0, false, q.1, q.2))
  else .inr (0, false, one_ (t a), a + 1)
/-- place, items so far, their kinds and stars, the pieces' sets, the newest row of each open choice -/
abbrev PS : Type := Nat × Nat × (Nat → Nat) × (Nat → Bool) × (Nat → SS) × List Nat
def stp (x : Nat) (kd : Nat → Nat) (sr : Nat → Bool) (S : Nat → SS) (lr : List Nat) (u : Nat × Bool × SS × Nat) : PS :=
  (u.2.2.2, x + 1, va_up kd x u.1, va_up sr x u.2.1, (if u.1 = 0 then va_up S (pn kd x) u.2.2.1 else S), (if u.1 = 1 then x :: lr else if u.1 = 2 then x :: lr.tail else if u.1 = 3 then lr.tail else lr))
def pz (t : Nat → Nat) (n : Nat) : Nat → PS → Nat ⊕ PS
  | 0, st => .inr st
  | f + 1, (a, x, kd, sr, S, lr) => if a < n then (match un t n a lr.length (decide (kd (lr.headD 0) = 2)) with
    | .inl k => .inl k
    | .inr u => pz t n f (stp x kd sr S lr u)) else .inr (a, x, kd, sr, S, lr)
def st0 : PS := (0, 0, (fun _ => 4), (fun _ => false), (fun _ _ => false), [])
def parse (t : Nat → Nat) (n : Nat) : Nat ⊕ PS := match pz t n n st0 with
  | .inl k => .inl k
  | .inr st => if n = 0 ∨ ¬ st.2.2.2.2.2 = [] then .inl n else .inr st
/-! what stands before an item does not depend on what comes after it -/
theorem stk_cg {kd kd' : Nat → Nat} : ∀ x, (∀ y, y < x → kd y = kd' y) → stk kd x = stk kd' x
  | 0, _ => rfl
  | x + 1, h => by
    rw [stk, stk, h x (by omega), stk_cg x (fun y hy => h y (by omega))]
theorem ow_cg {kd kd' : Nat → Nat} {x : Nat} (h : ∀ y, y < x → kd y = kd' y) : ow kd x = ow kd' x := by unfold ow; rw [stk_cg x h]
theorem pn_cg {kd kd' : Nat → Nat} : ∀ x, (∀ y, y < x → kd y = kd' y) → pn kd x = pn kd' x
  | 0, _ => rfl
  | x + 1, h => by
    rw [pn, pn, h x (by omega), pn_cg x (fun y hy => h y (by omega))]
theorem gs_cg {kd kd' : Nat → Nat} {sr sr' : Nat → Bool} : ∀ x, (∀ y, y < x → kd y = kd' y ∧ sr y = sr' y) → gs kd sr x = gs kd' sr' x
  | 0, _ => rfl
  | x + 1, h => by
    rw [gs, gs, (h x (by omega)).1, (h x (by omega)).2, gs_cg x (fun y hy => h y (by omega)), pn_cg x (fun y hy => (h y (by omega)).1)]
theorem Ar_cg {kd kd' : Nat → Nat} {sr sr' : Nat → Bool} {z s : Nat} (h : ∀ y, y ≤ z → kd y = kd' y ∧ sr y = sr' y) : Ar kd sr z s ↔ Ar kd' sr' z s := by
  unfold Ar
  rw [gs_cg z (fun y hy => h y (by omega)), (h z (Nat.le_refl _)).1, (h z (Nat.le_refl _)).2, pn_cg z (fun y hy => (h y (by omega)).1)]
theorem pn_le {kd : Nat → Nat} : ∀ x, pn kd x ≤ x
  | 0 => Nat.le_refl _
  | x + 1 => by
    have := pn_le (kd := kd) x
    rw [pn]
    split <;> omega
theorem pn_mono {kd : Nat → Nat} {a : Nat} : ∀ b, a ≤ b → pn kd a ≤ pn kd b
  | 0, h => by
    have : a = 0 := by omega
    subst this; exact Nat.le_refl _
  | b + 1, h => by
    by_cases e : a = b + 1
    · subst e; exact Nat.le_refl _
    · have := pn_mono (kd := kd) b (show a ≤ b by omega)
      rw [pn]
      split <;> omega
theorem pn_lt {kd : Nat → Nat} {z x : Nat} (h : z < x) (hk : kd z = 0) : pn kd z < pn kd x := by
  have := pn_mono (kd := kd) (a := z + 1) x h
  rw [pn, if_pos hk] at this
  omega
theorem pn_inj {kd : Nat → Nat} {z w : Nat} (hz : kd z = 0) (hw : kd w = 0) (h : pn kd z = pn kd w) : z = w := by
  rcases Nat.lt_trichotomy z w with q | q | q
  · have := pn_lt q hz; omega
  · exact q
  · have := pn_lt q hw; omega
theorem pn_sur {kd : Nat → Nat} : ∀ x q, q < pn kd x → ∃ z, z < x ∧ kd z = 0 ∧ pn kd z = q
  | 0, q, h => by simp [pn] at h
  | x + 1, q, h => by
    by_cases hk : kd x = 0
    · rw [pn, if_pos hk] at h
      by_cases e : q = pn kd x
      · exact ⟨x, by omega, hk, e.symm⟩
      · obtain ⟨z, h1, h2⟩ := pn_sur (kd := kd) x q (by omega)
        exact ⟨z, by omega, h2⟩
    · rw [pn, if_neg hk] at h
      obtain ⟨z, h1, h2⟩ := pn_sur (kd := kd) x q h
      exact ⟨z, by omega, h2⟩
theorem gs_len {kd : Nat → Nat} {sr : Nat → Bool} : ∀ x, (gs kd sr x).2.length = (stk kd x).length
  | 0 => rfl
  | x + 1 => by
    have ih := gs_len (kd := kd) (sr := sr) x
    rw [gs, stk]
    by_cases k0 : kd x = 0
    · rw [if_pos k0, if_neg (show ¬ kd x = 1 by omega), if_neg (show ¬ kd x = 3 by omega)]
      split <;> exact ih
    · rw [if_neg k0]
      by_cases k1 : kd x = 1
      · rw [if_pos k1, if_pos k1]
        show (gs kd sr x).2.length + 1 = (stk kd x).length + 1
        rw [ih]
      · rw [if_neg k1, if_neg k1]
        by_cases k2 : kd x = 2
        · rw [if_pos k2, if_neg (show ¬ kd x = 3 by omega)]
          cases hg : (gs kd sr x).2 with
          | nil => rw [hg] at ih; exact ih
          | cons p r => rw [hg] at ih; exact ih
        · rw [if_neg k2]
          by_cases k3 : kd x = 3
          · rw [if_pos k3, if_pos k3, List.length_tail, ← ih]
            cases hg : (gs kd sr x).2 with
            | nil => rfl
            | cons p r => rfl
          · rw [if_neg k3, if_neg k3]
            exact ih
/-- sources are the beginning and pieces that stand before -/
theorem gs_bd {kd : Nat → Nat} {sr : Nat → Bool} : ∀ x, (∀ s, (gs kd sr x).1 s → s ≤ pn kd x) ∧ ∀ p, p ∈ (gs kd sr x).2 → ∀ s, p.1 s ∨ p.2 s → s ≤ pn kd x
  | 0 => ⟨fun s h => by have : s = 0 := h; omega, fun p h => by simp [gs] at h⟩
  | x + 1 => by
    obtain ⟨i1, i2⟩ := gs_bd (kd := kd) (sr := sr) x
    rw [gs, pn]
    by_cases k0 : kd x = 0
    · rw [if_pos k0, if_pos k0]
      by_cases hs : sr x = true
      · rw [if_pos hs]
        refine ⟨fun s h => ?_, fun p hp s h => by have := i2 p hp s h; omega⟩
        rcases h with h | h
        · have := i1 s h; omega
        · omega
      · rw [if_neg hs]
        exact ⟨fun s h => by have h' : s = pn kd x + 1 := h; omega, fun p hp s h => by have := i2 p hp s h; omega⟩
    · rw [if_neg k0, if_neg k0]
      by_cases k1 : kd x = 1
      · rw [if_pos k1]
        refine ⟨i1, fun p hp s h => ?_⟩
        rcases List.mem_cons.mp hp with e | hp
        · subst e
          rcases h with h | h
          · exact i1 s h
          · exact h.elim
        · exact i2 p hp s h
      · rw [if_neg k1]
        by_cases k2 : kd x = 2
        · rw [if_pos k2]
          cases hg : (gs kd sr x).2 with
          | nil => exact ⟨i1, fun p hp => absurd hp (by simp)⟩
          | cons p r =>
            obtain ⟨b, o⟩ := p
            rw [hg] at i2
            refine ⟨fun s h => i2 (b, o) (by simp) s (Or.inl h), fun p hp s h => ?_⟩
            rcases List.mem_cons.mp hp with e | hp
            · subst e
              rcases h with h | h | h
              · exact i2 (b, o) (by simp) s (Or.inl h)
              · exact i2 (b, o) (by simp) s (Or.inr h)
              · exact i1 s h
            · exact i2 p (by simp [hp]) s h
        · rw [if_neg k2]
          by_cases k3 : kd x = 3
          · rw [if_pos k3]
            cases hg : (gs kd sr x).2 with
            | nil => exact ⟨i1, fun p hp => absurd hp (by simp)⟩
            | cons p r =>
              obtain ⟨b, o⟩ := p
              rw [hg] at i2
              refine ⟨fun s h => ?_, fun p hp s h => i2 p (by simp [hp]) s h⟩
              rcases h with h | h
              · exact i1 s h
              · exact i2 (b, o) (by simp) s (Or.inr h)
          · rw [if_neg k3]
            exact ⟨fun s h => h.elim, i2⟩
/-! units move on -/
theorem el1_ok {t : Nat → Nat} {n k : Nat} (hk : k ≤ n) : (∀ j, el1 t n k = .inl j → k ≤ j ∧ j ≤ n) ∧ ∀ q, el1 t n k = .inr q → k < q.1 ∧ q.1 ≤ n ∧ q.2.1 = chr_ t n k ∧ k < n ∧ (q.2.2 = q.2.1 ∨ q.2.1 ≤ q.2.2 ∧ ∃ i, i < n ∧ q.2.2 = chr_ t n i) := by
  have c0 : ∀ i, ¬ chr_ t n i = 0 → i < n := fun i h => Classical.byContradiction fun q => h (by unfold chr_; rw [if_neg q])
  have e0 : ∀ i, isEl (chr_ t n i) = true → i < n := fun i h => c0 i (of_decide_eq_true h).1
  unfold el1
  by_cases h1 : isEl (chr_ t n k) = true
  · rw [if_pos h1]
    have hkn := e0 k h1
    by_cases h2 : chr_ t n (k + 1) = 45
    · rw [if_pos h2]
      have hk1 := c0 (k + 1) (by omega)
      by_cases h3 : isEl (chr_ t n (k + 2)) = true ∧ chr_ t n k ≤ chr_ t n (k + 2)
      · rw [if_pos h3]
        have hk2 := e0 (k + 2) h3.1
        exact ⟨fun j h => (by cases h), fun q h => by cases h; exact ⟨by omega, by omega, rfl, hkn, Or.inr ⟨h3.2, k + 2, hk2, rfl⟩⟩⟩
      · rw [if_neg h3]
        exact ⟨fun j h => by cases h; exact ⟨by omega, by omega⟩, fun q h => by cases h⟩
    · rw [if_neg h2]
      exact ⟨fun j h => (by cases h), fun q h => by cases h; exact ⟨by omega, by omega, rfl, hkn, Or.inl rfl⟩⟩
  · rw [if_neg h1]
    exact ⟨fun j h => by cases h; exact ⟨Nat.le_refl _, hk⟩, fun q h => by cases h⟩
theorem be_ok {t : Nat → Nat} {n : Nat} {v : Bool} : ∀ (f k : Nat) (S : SS), k ≤ n → (∀ j, be t n v f k S = .inl j → j ≤ n) ∧ ∀ q, be t n v f k S = .inr q → k ≤ q.2 ∧ q.2 < n
  | 0, k, S, hk => ⟨fun j h => by cases h; exact Nat.le_refl _, fun q h => by cases h⟩
  | f + 1, k, S, hk => by
    rw [be]
    by_cases h1 : chr_ t n k = 93
    · rw [if_pos h1]
      have hkn : k < n := Classical.byContradiction fun q => by
        unfold chr_ at h1
        rw [if_neg q] at h1
        omega
      exact ⟨fun j h => (by cases h), fun q h => by cases h; exact ⟨Nat.le_refl _, hkn⟩⟩
    · rw [if_neg h1]
      obtain ⟨g1, g2⟩ := el1_ok (t := t) hk
      cases he : el1 t n k with
      | inl j => exact ⟨fun i h => by cases h; exact (g1 j he).2, fun q h => by cases h⟩
      | inr q =>
        obtain ⟨q1, q2, -⟩ := g2 q he
        obtain ⟨i1, i2⟩ := be_ok f q.1 (seti S (q.2.1 - 32) (q.2.2 - 32) v) q2
        exact ⟨i1, fun r h => by have := i2 r h; exact ⟨by omega, this.2⟩⟩
theorem bk0_ok {t : Nat → Nat} {n a : Nat} (ha : a < n) : a < bk0 t n a ∧ bk0 t n a ≤ n := by
  unfold bk0
  by_cases h : chr_ t n (a + 1) = 94
  · rw [if_pos h]
    have : a + 1 < n := Classical.byContradiction fun q => by
      unfold chr_ at h
      rw [if_neg q] at h
      omega
    omega
  · rw [if_neg h]; omega
theorem br_ok {t : Nat → Nat} {n a : Nat} (ha : a < n) : (∀ j, br t n a = .inl j → j ≤ n) ∧ ∀ q, br t n a = .inr q → a < q.2 ∧ q.2 ≤ n := by
  obtain ⟨b1, b2⟩ := bk0_ok (t := t) ha
  unfold br
  by_cases h : isEl (chr_ t n (bk0 t n a)) = true
  · rw [if_pos h]
    obtain ⟨g1, g2⟩ := be_ok (t := t) (v := !bot t n a) 41 (bk0 t n a) (fun _ => bot t n a) b2
    cases hb : be t n (!bot t n a) 41 (bk0 t n a) (fun _ => bot t n a) with
    | inl j => exact ⟨fun i h => by cases h; exact g1 j hb, fun q h => by cases h⟩
    | inr q =>
      obtain ⟨q1, q2⟩ := g2 q hb
      exact ⟨fun i h => (by cases h), fun r h => by cases h; exact ⟨by show a < q.2 + 1; omega, by show q.2 + 1 ≤ n; omega⟩⟩
  · rw [if_neg h]
    exact ⟨fun i h => by cases h; exact b2, fun q h => by cases h⟩
theorem un_ok {t : Nat → Nat} {n a dp : Nat} {rw_ : Bool} (ha : a < n) : (∀ j, un t n a dp rw_ = .inl j → j ≤ n) ∧ ∀ u, un t n a dp rw_ = .inr u → a < u.2.2.2 ∧ u.2.2.2 ≤ n ∧ u.1 ≤ 3 ∧ (u.1 = 1 → dp < 2) ∧ (u.1 = 2 → 0 < dp) ∧ (u.1 = 3 → 0 < dp ∧ rw_ = true) := by
  have bad : ∀ k, k ≤ n → (∀ j, (Sum.inl k : Nat ⊕ (Nat × Bool × SS × Nat)) = .inl j → j ≤ n) ∧ ∀ u, (Sum.inl k : Nat ⊕ (Nat × Bool × SS × Nat)) = .inr u → a < u.2.2.2 ∧ u.2.2.2 ≤ n ∧ u.1 ≤ 3 ∧ (u.1 = 1 → dp < 2) ∧ (u.1 = 2 → 0 < dp) ∧ (u.1 = 3 → 0 < dp ∧ rw_ = true) := fun k hk => ⟨fun j h => (by cases h; exact hk), fun u h => (by cases h)⟩
  have good : ∀ (k : Nat) (b : Bool) (s : SS) (a' : Nat), a < a' → a' ≤ n → k ≤ 3 → (k = 1 → dp < 2) → (k = 2 → 0 < dp) → (k = 3 → 0 < dp ∧ rw_ = true) → (∀ j, (Sum.inr (k, b, s, a') : Nat ⊕ (Nat × Bool × SS × Nat)) = .inl j → j ≤ n) ∧ ∀ u, (Sum.inr (k, b, s, a') : Nat ⊕ (Nat × Bool × SS × Nat)) = .inr u → a < u.2.2.2 ∧ u.2.2.2 ≤ n ∧ u.1 ≤ 3 ∧ (u.1 = 1 → dp < 2) ∧ (u.1 = 2 → 0 < dp) ∧ (u.1 = 3 → 0 < dp ∧ rw_ = true) := fun k b s a' g1 g2 g3 g4 g5 g6 => ⟨fun j h => (by cases h), fun u h => (by cases h; exact ⟨g1, g2, g3, g4, g5, g6⟩)⟩
  have pie : ∀ (b : Bool) (s : SS) (a' : Nat), a < a' → a' ≤ n → (∀ j, (Sum.inr (0, b, s, a') : Nat ⊕ (Nat × Bool × SS × Nat)) = .inl j → j ≤ n) ∧ ∀ u, (Sum.inr (0, b, s, a') : Nat ⊕ (Nat × Bool × SS × Nat)) = .inr u → a < u.2.2.2 ∧ u.2.2.2 ≤ n ∧ u.1 ≤ 3 ∧ (u.1 = 1 → dp < 2) ∧ (u.1 = 2 → 0 < dp) ∧ (u.1 = 3 → 0 < dp ∧ rw_ = true) := fun b s a' g1 g2 => good 0 b s a' g1 g2 (by omega) (fun z => by omega) (fun z => by omega) (fun z => by omega)
  have cn0 : ∀ i c, chr_ t n i = c → ¬ c = 0 → i < n := fun i c h hc => Classical.byContradiction fun q => by
    unfold chr_ at h
    rw [if_neg q] at h
    omega
  unfold un
  by_cases h1 : t a = 123
  · rw [if_pos h1]
    by_cases h : dp < 2
    · rw [if_pos h]; exact good 1 _ _ _ (by omega) (by omega) (by omega) (fun _ => h) (fun z => by omega) (fun z => by omega)
    · rw [if_neg h]; exact bad _ (by omega)
  · rw [if_neg h1]
    by_cases h2 : t a = 125
    · rw [if_pos h2]
      by_cases h : 0 < dp ∧ rw_ = true
      · rw [if_pos h]; exact good 3 _ _ _ (by omega) (by omega) (by omega) (fun z => by omega) (fun z => by omega) (fun _ => h)
      · rw [if_neg h]; exact bad _ (by omega)
    · rw [if_neg h2]
      by_cases h3 : t a = 93
      · rw [if_pos h3]; exact bad _ (by omega)
      · rw [if_neg h3]
        by_cases h4 : t a = 44 ∧ 0 < dp
        · rw [if_pos h4]; exact good 2 _ _ _ (by omega) (by omega) (by omega) (fun z => by omega) (fun _ => h4.2) (fun z => by omega)
        · rw [if_neg h4]
          by_cases h5 : t a = 92
          · rw [if_pos h5]
            by_cases h : a + 1 < n
            · rw [if_pos h]; exact pie _ _ _ (by omega) (by omega)
            · rw [if_neg h]; exact bad _ (by omega)
          · rw [if_neg h5]
            by_cases h6 : t a = 63
            · rw [if_pos h6]; exact pie _ _ _ (by omega) (by omega)
            · rw [if_neg h6]
              by_cases h7 : t a = 42
              · rw [if_pos h7]
                by_cases h : chr_ t n (a + 1) = 42
                · rw [if_pos h]
                  have := cn0 _ _ h (by omega)
                  exact pie _ _ _ (by omega) (by omega)
                · rw [if_neg h]; exact pie _ _ _ (by omega) (by omega)
              · rw [if_neg h7]
                by_cases h8 : t a = 91
                · rw [if_pos h8]
                  obtain ⟨g1, g2⟩ := br_ok (t := t) ha
                  cases hb : br t n a with
                  | inl j => exact bad j (g1 j hb)
                  | inr q => exact pie _ _ _ (g2 q hb).1 (g2 q hb).2
                · rw [if_neg h8]; exact pie _ _ _ (by omega) (by omega)
/-- the choices' newest rows and the choices that stand open -/
def LSt (kd : Nat → Nat) (x : Nat) : List Nat → List Nat → Prop
  | [], [] => True
  | j :: r, o :: q => j < x ∧ (j = o ∨ (kd j = 2 ∧ ow kd j = o)) ∧ (kd j = 1 ∨ kd j = 2) ∧ (∀ z, j < z → z < x → (kd z = 2 ∨ kd z = 3) → ¬ ow kd z = o) ∧ LSt kd x r q
  | _, _ => False
theorem LSt.len {kd : Nat → Nat} {x : Nat} : ∀ {l q : List Nat}, LSt kd x l q → l.length = q.length
  | [], [], _ => rfl
  | _ :: _, _ :: _, h => by simp [LSt.len h.2.2.2.2]
  | [], _ :: _, h => h.elim
  | _ :: _, [], h => h.elim
/-- a state of the parse is sound -/
def WS (n a x : Nat) (kd : Nat → Nat) (lr : List Nat) : Prop := x ≤ a ∧ a ≤ n ∧ (∀ j, x ≤ j → kd j = 4) ∧ (∀ j, j < x → kd j ≤ 3) ∧ LSt kd x lr (stk kd x) ∧ lr.length ≤ 2 ∧ WK3 kd x
theorem WS0 (n : Nat) : WS n 0 0 (fun _ => 4) [] := ⟨Nat.le_refl _, Nat.zero_le _, fun _ _ => rfl, fun j h => absurd h (Nat.not_lt_zero _), trivial, by decide, fun x h => absurd h (Nat.not_lt_zero _)⟩
theorem LSt.up {kd : Nat → Nat} {x k : Nat} : ∀ {l q : List Nat}, LSt kd x l q → (k = 0 ∨ k = 1 ∨ ¬ ow kd x ∈ q) → LSt (va_up kd x k) (x + 1) l q
  | [], [], _, _ => trivial
  | j :: r, o :: q, h, hk => by
    obtain ⟨h1, h2, h3, h4, h5⟩ := h
    have ej : va_up kd x k j = kd j := up_n (by omega)
    have eo : ∀ z, z ≤ x → ow (va_up kd x k) z = ow kd z := fun z hz => ow_cg (fun y hy => up_n (by omega))
    refine ⟨by omega, ?_, by rw [ej]; exact h3, fun z z1 z2 z3 => ?_, LSt.up h5 (hk.imp id (fun g => g.imp id (fun g' q' => g' (List.mem_cons_of_mem _ q'))))⟩
    · rw [ej, eo j (by omega)]; exact h2
    · rw [eo z (by omega)]
      by_cases e : z = x
      · subst e
        rw [up_s] at z3
        rcases hk with g | g | g
        · omega
        · omega
        · exact fun q' => g (q' ▸ List.mem_cons_self)
      · rw [up_n e] at z3
        exact h4 z z1 (by omega) z3
  | [], _ :: _, h, _ => h.elim
  | _ :: _, [], h, _ => h.elim
theorem WS.step {n a x : Nat} {kd : Nat → Nat} {lr : List Nat} (h : WS n a x kd lr) {k a' : Nat} (h1 : a < a') (h2 : a' ≤ n) (h3 : k ≤ 3) (d1 : k = 1 → lr.length < 2) (d2 : k = 2 → 0 < lr.length) (d3 : k = 3 → 0 < lr.length) : WS n a' (x + 1) (va_up kd x k) (if k = 1 then x :: lr else if k = 2 then x :: lr.tail else if k = 3 then lr.tail else lr) := by
  obtain ⟨w1, w2, w3, w4, w5, w6, w7⟩ := h
  have hlen := w5.len
  have eS : stk (va_up kd x k) x = stk kd x := stk_cg x (fun y hy => up_n (by omega))
  have eO : ow (va_up kd x k) x = ow kd x := ow_cg (fun y hy => up_n (by omega))
  have hwk : (k = 2 ∨ k = 3 → stk kd x ≠ []) → WK3 (va_up kd x k) (x + 1) := fun hne y hy hk => by
    by_cases e : y = x
    · subst e
      rw [up_s] at hk
      rw [eS]
      exact hne hk
    · rw [up_n e] at hk
      rw [stk_cg y (fun z hz => up_n (by omega))]
      exact w7 y (by omega) hk
  refine ⟨by omega, h2, fun j hj => by rw [up_n (by omega)]; exact w3 j (by omega), fun j hj => ?_, ?_⟩
  · by_cases e : j = x
    · subst e; rw [up_s]; exact h3
    · rw [up_n e]; exact w4 j (by omega)
  · by_cases k1 : k = 1
    · subst k1
      rw [if_pos rfl]
      have e3 : stk (va_up kd x 1) (x + 1) = x :: stk kd x := by rw [stk, up_s, if_pos rfl, eS]
      rw [e3]
      refine ⟨⟨by omega, Or.inl rfl, Or.inl up_s, fun z z1 z2 => by omega, w5.up (Or.inr (Or.inl rfl))⟩, by have := d1 rfl; simp; omega, hwk (fun z => by omega)⟩
    · rw [if_neg k1]
      by_cases k2 : k = 2
      · subst k2
        rw [if_pos rfl]
        have e3 : stk (va_up kd x 2) (x + 1) = stk kd x := by rw [stk, up_s, if_neg (by decide), if_neg (by decide), eS]
        rw [e3]
        have hpos := d2 rfl
        cases hl : lr with
        | nil => rw [hl] at hpos; simp at hpos
        | cons j r =>
          rw [hl] at w5 w6 hlen
          cases hs : stk kd x with
          | nil => rw [hs] at w5; exact w5.elim
          | cons o q =>
            rw [hs] at w5
            have hnd := stk_nd (kd := kd) x
            rw [hs] at hnd
            refine ⟨⟨by omega, Or.inr ⟨up_s, by rw [eO, ow_cons hs]⟩, Or.inr up_s, fun z z1 z2 => by omega, w5.2.2.2.2.up (Or.inr (Or.inr (by rw [ow_cons hs]; exact (List.nodup_cons.mp hnd).1)))⟩, by simpa using w6, hwk (fun _ => by rw [hs]; simp)⟩
      · rw [if_neg k2]
        by_cases k3 : k = 3
        · subst k3
          rw [if_pos rfl]
          have e3 : stk (va_up kd x 3) (x + 1) = (stk kd x).tail := by rw [stk, up_s, if_neg (by decide), if_pos rfl, eS]
          rw [e3]
          have hpos := d3 rfl
          cases hl : lr with
          | nil => rw [hl] at hpos; simp at hpos
          | cons j r =>
            rw [hl] at w5 w6 hlen
            cases hs : stk kd x with
            | nil => rw [hs] at w5; exact w5.elim
            | cons o q =>
              rw [hs] at w5
              have hnd := stk_nd (kd := kd) x
              rw [hs] at hnd
              refine ⟨w5.2.2.2.2.up (Or.inr (Or.inr (by rw [ow_cons hs]; exact (List.nodup_cons.mp hnd).1))), ?_, hwk (fun _ => by rw [hs]; simp)⟩
              have : (j :: r).length ≤ 2 := w6
              simp at this
              show r.length ≤ 2
              omega
        · rw [if_neg k3]
          have k0 : k = 0 := by omega
          subst k0
          have e3 : stk (va_up kd x 0) (x + 1) = stk kd x := by rw [stk, up_s, if_neg (by decide), if_neg (by decide), eS]
          rw [e3]
          exact ⟨w5.up (Or.inl rfl), w6, hwk (fun z => by omega)⟩
