/-! the reference's spreading: what is seen is what is reached -/
def Rr (kd : Nat → Nat) (sr : Nat → Bool) (p y : Nat) : Prop := y = p ∨ ∃ w, ∃ _ : w < y, Ed kd sr w y ∧ Rr kd sr p w
termination_by y
theorem Rr.iff {kd : Nat → Nat} {sr : Nat → Bool} {p y : Nat} : Rr kd sr p y ↔ y = p ∨ ∃ w, w < y ∧ Ed kd sr w y ∧ Rr kd sr p w := by
  rw [Rr]
  constructor
  · rintro (h | ⟨w, h1, h2⟩)
    · exact Or.inl h
    · exact Or.inr ⟨w, h1, h2⟩
  · rintro (h | ⟨w, h1, h2⟩)
    · exact Or.inl h
    · exact Or.inr ⟨w, h1, h2⟩
theorem Re_Rr {kd : Nat → Nat} {sr : Nat → Bool} {s p : Nat} (h : ∀ y, Src kd sr s y ↔ y = p) : ∀ y, Re kd sr s y ↔ Rr kd sr p y := by
  intro y
  induction y using Nat.strongRecOn with
  | _ y ih =>
    rw [Re.iff, Rr.iff, h y]
    constructor
    · rintro (h1 | ⟨w, h1, h2, h3⟩)
      · exact Or.inl h1
      · exact Or.inr ⟨w, h1, h2, (ih w h1).mp h3⟩
    · rintro (h1 | ⟨w, h1, h2, h3⟩)
      · exact Or.inl h1
      · exact Or.inr ⟨w, h1, h2, (ih w h1).mpr h3⟩
/-- a choice that has ended stands open no more -/
theorem stk_gone {kd : Nat → Nat} {z o : Nat} {l : List Nat} (hz : kd z = 3) (hs : stk kd z = o :: l) : ∀ w, z < w → ¬ o ∈ stk kd w
  | 0, h => by omega
  | w + 1, h => by
    by_cases e : w = z
    · subst e
      rw [stk, if_neg (by omega), if_pos hz, hs]
      have := stk_nd (kd := kd) w
      rw [hs] at this
      exact (List.nodup_cons.mp this).1
    · have ih := stk_gone hz hs w (by omega)
      have ho := (stk_lt z o (by rw [hs]; exact List.mem_cons_self)).1
      rw [stk]
      by_cases k1 : kd w = 1
      · rw [if_pos k1]
        intro q
        rcases List.mem_cons.mp q with q | q
        · omega
        · exact ih q
      · rw [if_neg k1]
        by_cases k3 : kd w = 3
        · rw [if_pos k3]
          exact fun q => ih (List.mem_of_mem_tail q)
        · rw [if_neg k3]; exact ih
def cv (V : Nat → Bool) : Nat → Nat
  | 0 => 0
  | k + 1 => cv V k + (if V k = true then 1 else 0)
theorem cv_le (V : Nat → Bool) : ∀ k, cv V k ≤ k
  | 0 => Nat.le_refl _
  | k + 1 => by
    have := cv_le V k
    rw [cv]
    split <;> omega
theorem cv_cg {V V' : Nat → Bool} : ∀ k, (∀ j, j < k → V j = V' j) → cv V k = cv V' k
  | 0, _ => rfl
  | k + 1, h => by rw [cv, cv, h k (by omega), cv_cg k (fun j hj => h j (by omega))]
theorem cv_up {V : Nat → Bool} {p : Nat} (hp : V p = false) : ∀ k, p < k → cv (va_up V p true) k = cv V k + 1
  | 0, h => by omega
  | k + 1, h => by
    rw [cv, cv]
    by_cases e : p = k
    · subst e
      rw [up_s, hp, cv_cg (V' := V) p (fun j hj => up_n (by omega)), if_pos rfl, if_neg (by decide)]
    · rw [up_n (fun q => e q.symm), cv_up hp k (by omega)]
      omega
section SPR
variable {m : Nat}
def DS (m : Nat) (V : Nat → Bool) (c : Nat) (sk : Nat → Nat) (sn st : Nat → Int32) : Prop := (∀ j, j < m → sn j = if V j = true then 1 else 0) ∧ (∀ i, i < c → st i = nI (sk i) ∧ sk i < m ∧ V (sk i) = true) ∧ c ≤ cv V m
/-- A is seen now, and what is new of it lies on the stack -/
def Gr (m : Nat) (V : Nat → Bool) (c : Nat) (sk : Nat → Nat) (V' : Nat → Bool) (c' : Nat) (sk' : Nat → Nat) (A : Nat → Prop) : Prop := (∀ y, y < m → (V' y = true ↔ V y = true ∨ A y)) ∧ c ≤ c' ∧ (∀ i, i < c → sk' i = sk i) ∧ (∀ y, y < m → V' y = true → V y = true ∨ ∃ i, c ≤ i ∧ i < c' ∧ sk' i = y) ∧ c' + cv V m = c + cv V' m
theorem Gr.no {V : Nat → Bool} {c : Nat} {sk : Nat → Nat} {A : Nat → Prop} (h : ∀ y, y < m → ¬ A y) : Gr m V c sk V c sk A := ⟨fun y hy => ⟨Or.inl, fun z => z.elim id (fun z => absurd z (h y hy))⟩, Nat.le_refl _, fun _ _ => rfl, fun y _ h => Or.inl h, rfl⟩
theorem Gr.cg {V V' : Nat → Bool} {c c' : Nat} {sk sk' : Nat → Nat} {A B : Nat → Prop} (h : Gr m V c sk V' c' sk' A) (e : ∀ y, y < m → (A y ↔ B y)) : Gr m V c sk V' c' sk' B := ⟨fun y hy => (h.1 y hy).trans (or_congr Iff.rfl (e y hy)), h.2⟩
theorem Gr.tr {V V' V2 : Nat → Bool} {c c' c2 : Nat} {sk sk' sk2 : Nat → Nat} {A B : Nat → Prop} (h : Gr m V c sk V' c' sk' A) (g : Gr m V' c' sk' V2 c2 sk2 B) : Gr m V c sk V2 c2 sk2 (fun y => A y ∨ B y) := by
  obtain ⟨h1, h2, h3, h4, h5⟩ := h
  obtain ⟨g1, g2, g3, g4, g5⟩ := g
  refine ⟨fun y hy => ?_, by omega, fun i hi => by rw [g3 i (by omega), h3 i hi], fun y hy hv => ?_, by omega⟩
  · rw [g1 y hy, h1 y hy, or_assoc]
  · rcases g4 y hy hv with q | ⟨i, q1, q2, q3⟩
    · rcases h4 y hy q with q | ⟨i, q1, q2, q3⟩
      · exact Or.inl q
      · exact Or.inr ⟨i, q1, by omega, by rw [g3 i q2]; exact q3⟩
    · exact Or.inr ⟨i, by omega, q2, q3⟩
theorem mk_ok (hm : m ≤ 42) {V : Nat → Bool} {c : Nat} {sk : Nat → Nat} {sn st : Nat → Int32} (h : DS m V c sk sn st) {p : Nat} (hp : p < m) : ∃ V' c' sk' sn' st', f_M_mark (nI p) (nI c) sn st = some (nI c', sn', st') ∧ DS m V' c' sk' sn' st' ∧ Gr m V c sk V' c' sk' (fun y => y = p) := by
  obtain ⟨h1, h2, h3⟩ := h
  have hi : inB (nI p) 42 = true := inB_nI (by omega) (by omega)
  unfold f_M_mark
  rw [ifT hi, nI_clamp (by omega), h1 p hp]
  have hcm := cv_le V m
  by_cases hv : V p = true
  · rw [if_pos hv, ifF (by decide)]
    refine ⟨V, c, sk, sn, st, rfl, ⟨h1, h2, h3⟩, fun y hy => ⟨Or.inl, fun z => z.elim id (fun z => by rw [z]; exact hv)⟩, Nat.le_refl _, fun _ _ => rfl, fun y _ h => Or.inl h, rfl⟩
  · have hv' : V p = false := ts_nt hv
    have hup := cv_up hv' m hp
    have hcm2 := cv_le (va_up V p true) m
    rw [if_neg hv, ifT rfl, ifT hi, ifT (inB_nI (by omega) (by omega)), nI_clamp (by omega), nI_1]
    refine ⟨va_up V p true, c + 1, va_up sk c p, upd sn p 1, upd st c (nI p), rfl, ⟨fun j hj => ?_, fun i hi' => ?_, by omega⟩, fun y hy => ?_, by omega, fun i hi' => up_n (by omega), fun y hy hvy => ?_, by omega⟩
    · by_cases e : j = p
      · subst e; rw [pk_us, up_s]; rfl
      · rw [pk_un e, up_n e]; exact h1 j hj
    · by_cases e : i = c
      · subst e; rw [pk_us, up_s, up_s]; exact ⟨rfl, hp, rfl⟩
      · obtain ⟨a1, a2, a3⟩ := h2 i (by omega)
        rw [pk_un e, up_n e]
        refine ⟨a1, a2, ?_⟩
        by_cases e2 : sk i = p
        · rw [e2, up_s]
        · rw [up_n e2]; exact a3
    · by_cases e : y = p
      · subst e; rw [up_s]; exact ⟨fun _ => Or.inr rfl, fun _ => rfl⟩
      · rw [up_n e]; exact ⟨Or.inl, fun z => z.elim id (fun z => absurd z e)⟩
    · by_cases e : y = p
      · subst e; exact Or.inr ⟨c, Nat.le_refl _, by omega, up_s⟩
      · rw [up_n e] at hvy; exact Or.inl hvy
end SPR
section SPR2
variable {n a x fu : Nat} {kd : Nat → Nat} {sr : Nat → Bool} {P0 : Nat} {vB0 : Nat → Int64} {S : Nat → SS} {so pi on : Nat → Int32} {vB : Nat → Int64} {vS : Nat → Int32}
def Rw (kd : Nat → Nat) (x j o y : Nat) : Prop := ∃ z, j ≤ z ∧ z < x ∧ y = z + 1 ∧ (z = j ∨ (kd z = 2 ∧ ow kd z = o))
/-- behind a choice's close there is nothing of it -/
theorem gone_ow (hW : WK3 kd x) {z o w : Nat} (hz : z < x) (hk : kd z = 3) (ho : ow kd z = o) (hw : z < w) (hwx : w < x) (hwk : kd w = 2 ∨ kd w = 3) : ¬ ow kd w = o := fun e => by
  have hne := hW z hz (Or.inr hk)
  cases hs : stk kd z with
  | nil => exact hne hs
  | cons o' l =>
    have : o' = o := by rw [← ow_cons hs]; exact ho
    subst this
    have hnw := hW w hwx hwk
    have := ow_mem hnw
    rw [e] at this
    exact stk_gone hk hs w hw this
theorem L71_ok (hx : x ≤ 40) (hW : WK3 kd x) (hso : ∀ j, j < x + 1 → so j = nI (kd j)) (hon : ∀ j, j < x → (kd j = 1 ∨ kd j = 2) → ONx kd x j on) {o : Nat} (kk : Int32 → Int32 → (Nat → Int32) → (Nat → Int32) → Option ((Nat → Int32) × (Nat → Int32))) : ∀ (d j f c : Nat) (V : Nat → Bool) (sk : Nat → Nat) (sn st : Nat → Int32), x ≤ j + d → j < x → (kd j = 1 ∨ kd j = 2) → own kd j = o → d < f → DS (x + 1) V c sk sn st → ∃ r V' c' sk' sn' st', f_M_spread_L71 so on kk f (nI j) (nI c) sn st = kk r (nI c') sn' st' ∧ DS (x + 1) V' c' sk' sn' st' ∧ Gr (x + 1) V c sk V' c' sk' (Rw kd x j o)
  | 0, j, f, c, V, sk, sn, st, hd, hj, hk, ho, hf, hS => by omega
  | d + 1, j, f, c, V, sk, sn, st, hd, hj, hk, ho, hf, hS => by
    obtain ⟨f, rfl⟩ : ∃ g, f = g + 1 := ⟨f - 1, by omega⟩
    obtain ⟨z, z1, z2, z3, z4, z5, z6⟩ := hon j hj hk
    have hin : inB (nI j) 42 = true := inB_nI (by omega) (by omega)
    have q3 : ¬ nI (kd j) = 3 := fun q => by have := (nI_eq (b := 3) (by omega) (by omega)).mp q; omega
    obtain ⟨V1, c1, sk1, sn1, st1, m1, m2, m3⟩ := mk_ok (m := x + 1) (by omega) hS (show j + 1 < x + 1 by omega)
    rw [f_M_spread_L71_s, ifF (nI_pos (by omega)), ifT hin, nI_clamp (by omega), hso j (by omega), ifF q3, nI_1, m1, ob]
    dsimp only
    rw [ifT hin, z3]
    rw [ho] at z5 z6
    rcases z4 with z4 | z4
    · have hoz : own kd z = o := by unfold own; rw [if_neg (by omega)]; exact z5
      obtain ⟨r, V2, c2, sk2, sn2, st2, g1, g2, g3⟩ := L71_ok hx hW hso hon kk d z f c1 V1 sk1 sn1 st1 (by omega) z2 (Or.inr z4) hoz (by omega) m2
      refine ⟨r, V2, c2, sk2, sn2, st2, g1, g2, (m3.tr g3).cg (fun y hy => ?_)⟩
      constructor
      · rintro (e | ⟨w, w1, w2, w3, w4⟩)
        · exact ⟨j, Nat.le_refl _, hj, e, Or.inl rfl⟩
        · refine ⟨w, by omega, w2, w3, Or.inr ?_⟩
          rcases w4 with w4 | w4
          · subst w4; exact ⟨z4, z5⟩
          · exact w4
      · rintro ⟨w, w1, w2, w3, w4⟩
        by_cases e : w = j
        · exact Or.inl (by rw [w3, e])
        · rcases w4 with w4 | w4
          · exact absurd w4 e
          · right
            refine ⟨w, ?_, w2, w3, ?_⟩
            · refine Classical.byContradiction fun q => z6 w (by omega) (by omega) (Or.inl w4.1) w4.2
            · exact Or.inr w4
    · obtain ⟨f', rfl⟩ : ∃ g, f = g + 1 := ⟨f - 1, by omega⟩
      have hinz : inB (nI z) 42 = true := inB_nI (by omega) (by omega)
      refine ⟨nI z, V1, c1, sk1, sn1, st1, ?_, m2, m3.cg (fun y hy => ?_)⟩
      · rw [f_M_spread_L71_s, ifF (nI_pos (by omega)), ifT hinz, nI_clamp (by omega), hso z (by omega), ifT (show nI (kd z) = 3 by rw [z4]; rfl)]
      · constructor
        · intro e; exact ⟨j, Nat.le_refl _, hj, e, Or.inl rfl⟩
        · rintro ⟨w, w1, w2, w3, w4⟩
          by_cases e : w = j
          · rw [w3, e]
          · rcases w4 with w4 | w4
            · exact absurd w4 e
            · exfalso
              rcases Nat.lt_trichotomy w z with q | q | q
              · exact z6 w (by omega) q (Or.inl w4.1) w4.2
              · subst q; omega
              · exact gone_ow hW z2 z4 z5 q w2 (Or.inl w4.1) w4.2
theorem L126_ok (hx : x ≤ 40) (hW : WK3 kd x) (hso : ∀ j, j < x + 1 → so j = nI (kd j)) (hon : ∀ j, j < x → (kd j = 1 ∨ kd j = 2) → ONx kd x j on) {o : Nat} (kk : Int32 → Option ((Nat → Int32) × (Nat → Int32))) : ∀ (d j f : Nat), x ≤ j + d → j < x → (kd j = 1 ∨ kd j = 2) → own kd j = o → d < f → ∃ z, j < z ∧ z < x ∧ kd z = 3 ∧ ow kd z = o ∧ f_M_spread_L126 so on kk f (nI j) = kk (nI z) ∧ ∀ w, j < w → w < x → kd w = 3 → ow kd w = o → w = z
  | 0, j, f, hd, hj, hk, ho, hf => by omega
  | d + 1, j, f, hd, hj, hk, ho, hf => by
    obtain ⟨f, rfl⟩ : ∃ g, f = g + 1 := ⟨f - 1, by omega⟩
    obtain ⟨z, z1, z2, z3, z4, z5, z6⟩ := hon j hj hk
    have hin : inB (nI j) 42 = true := inB_nI (by omega) (by omega)
    have q3 : ¬ nI (kd j) = 3 := fun q => by have := (nI_eq (b := 3) (by omega) (by omega)).mp q; omega
    rw [f_M_spread_L126_s, ifF (nI_pos (by omega)), ifT hin, nI_clamp (by omega), hso j (by omega), ifF q3, ifT hin, z3]
    rw [ho] at z5 z6
    rcases z4 with z4 | z4
    · have hoz : own kd z = o := by unfold own; rw [if_neg (by omega)]; exact z5
      obtain ⟨y, y1, y2, y3, y4, y5, y6⟩ := L126_ok hx hW hso hon kk d z f (by omega) z2 (Or.inr z4) hoz (by omega)
      refine ⟨y, by omega, y2, y3, y4, y5, fun w w1 w2 w3 w4 => ?_⟩
      rcases Nat.lt_trichotomy w z with q | q | q
      · exact absurd w4 (z6 w w1 q (Or.inr w3))
      · subst q; omega
      · exact y6 w q w2 w3 w4
    · obtain ⟨f', rfl⟩ : ∃ g, f = g + 1 := ⟨f - 1, by omega⟩
      have hinz : inB (nI z) 42 = true := inB_nI (by omega) (by omega)
      refine ⟨z, z1, z2, z4, z5, ?_, fun w w1 w2 w3 w4 => ?_⟩
      · show f_M_spread_L126 so on kk (f' + 1) (nI z) = _
        rw [f_M_spread_L126_s, ifF (nI_pos (by omega)), ifT hinz, nI_clamp (by omega), hso z (by omega), ifT (show nI (kd z) = 3 by rw [z4]; rfl)]
      · rcases Nat.lt_trichotomy w z with q | q | q
        · exact absurd w4 (z6 w w1 q (Or.inr w3))
        · exact q
        · exact absurd w4 (gone_ow hW z2 z4 z5 q w2 (Or.inr w3))
/-- one item spreads -/
theorem it_ok (hfu : 100 ≤ fu) (hWS : WS n a x kd []) (hn : n ≤ 40) (hP : P0 + pn kd x ≤ 100) (hE : RMe P0 vB0 x kd sr S so pi on vB vS) (kb : Int32 → (Nat → Int32) → (Nat → Int32) → Option ((Nat → Int32) × (Nat → Int32))) {p c : Nat} (hp : p < x + 1) {V : Nat → Bool} {sk : Nat → Nat} {sn st : Nat → Int32} (hS : DS (x + 1) V c sk sn st) :
    ∃ V' c' sk' sn' st', (if so p = 1 then f_M_spread_J69 so pi on vS fu kb (nI p) (nI c) (nI p) sn st else f_M_spread_J69 so pi on vS fu kb (nI p) (nI c) (-1) sn st) = kb (nI c') sn' st' ∧ DS (x + 1) V' c' sk' sn' st' ∧ Gr (x + 1) V c sk V' c' sk' (fun y => p < y ∧ Ed kd sr p y) := by
  obtain ⟨hso, hpi, hon, -⟩ := hE
  obtain ⟨w1, w2, w3, w4, w5, w6, w7⟩ := hWS
  have hx : x ≤ 40 := by omega
  have hin : inB (nI p) 42 = true := inB_nI (by omega) (by omega)
  have hsp := hso p hp
  have hkb : kd p ≤ 4 := by
    by_cases e : p = x
    · rw [w3 p (by omega)]; omega
    · have := w4 p (by omega); omega
  have lit : ∀ l : Nat, l < 100 → ¬ kd p = l → ¬ nI (kd p) = nI l := fun l hl h z => h ((nI_eq (by omega) (by omega)).mp z)
  -- nothing by rows
  have skip71 : ∀ (k : Int32 → Int32 → (Nat → Int32) → (Nat → Int32) → Option ((Nat → Int32) × (Nat → Int32))), f_M_spread_L71 so on k fu (-1) (nI c) sn st = k (-1) (nI c) sn st := fun k => by
    obtain ⟨f, rfl⟩ : ∃ g, fu = g + 1 := ⟨fu - 1, by omega⟩
    rw [f_M_spread_L71_s]
    exact ifT (by decide)
  have skip126 : ∀ (k : Int32 → Option ((Nat → Int32) × (Nat → Int32))), f_M_spread_L126 so on k fu (-1) = k (-1) := fun k => by
    obtain ⟨f, rfl⟩ : ∃ g, fu = g + 1 := ⟨fu - 1, by omega⟩
    rw [f_M_spread_L126_s]
    exact ifT (by decide)
  rw [hsp]
  by_cases k1 : kd p = 1
  · have hpx : p < x := Nat.lt_of_le_of_ne (by omega) (fun e => by have := w3 p (by omega); omega)
    have hown : own kd p = p := by unfold own; rw [if_pos k1]
    have n2 : ¬ nI (kd p) = 2 := lit 2 (by omega) (by omega)
    have n3 : ¬ nI (kd p) = 3 := lit 3 (by omega) (by omega)
    have n0 : ¬ nI (kd p) = 0 := lit 0 (by omega) (by omega)
    obtain ⟨r, V', c', sk', sn', st', g1, g2, g3⟩ := L71_ok hx w7 hso hon (fun l4_71 l2_71 v_seen_71 v_stack_71 => (f_M_spread_J109 so pi on vS fu kb (nI p) l2_71 v_seen_71 v_stack_71)) x p fu c V sk sn st (by omega) hpx (Or.inl k1) hown (by omega) hS
    refine ⟨V', c', sk', sn', st', ?_, g2, g3.cg (fun y hy => ?_)⟩
    · rw [ifT (show nI (kd p) = 1 by rw [k1]; rfl)]
      unfold f_M_spread_J69
      refine Eq.trans g1 ?_
      show f_M_spread_J109 so pi on vS fu kb (nI p) (nI c') sn' st' = _
      unfold f_M_spread_J109 f_M_spread_J124
      rw [ifT hin, nI_clamp (by omega), hsp, ifF n2, skip126]
      unfold f_M_spread_J154 f_M_spread_J167
      rw [ifT (by decide), ifT hin, nI_clamp (by omega), hsp, ifF n3, ifT hin, ifF n0]
    · constructor
      · rintro ⟨z, z1, z2, z3, z4⟩
        exact ⟨by omega, Or.inr (Or.inl ⟨k1, z, z3, z4⟩)⟩
      · rintro ⟨y1, (⟨-, y2⟩ | ⟨-, z, z1, z2⟩ | ⟨y2, -⟩)⟩
        · omega
        · refine ⟨z, by omega, by omega, z1, z2⟩
        · omega
  · have n1 : ¬ nI (kd p) = 1 := lit 1 (by omega) k1
    rw [ifF n1]
    unfold f_M_spread_J69
    rw [skip71]
    show ∃ V' c' sk' sn' st', f_M_spread_J109 so pi on vS fu kb (nI p) (nI c) sn st = kb (nI c') sn' st' ∧ _
    unfold f_M_spread_J109 f_M_spread_J124
    rw [ifT hin, nI_clamp (by omega), hsp]
    by_cases k2 : kd p = 2
    · have hpx : p < x := Nat.lt_of_le_of_ne (by omega) (fun e => by have := w3 p (by omega); omega)
      have hown : own kd p = ow kd p := by unfold own; rw [if_neg k1]
      have n3 : ¬ nI (kd p) = 3 := lit 3 (by omega) (by omega)
      have n0 : ¬ nI (kd p) = 0 := lit 0 (by omega) (by omega)
      obtain ⟨z, z1, z2, z3, z4, z5, z6⟩ := L126_ok hx w7 hso hon (fun l5_126 => (f_M_spread_J154 so pi vS kb l5_126 (nI p) (nI c) sn st)) x p fu (by omega) hpx (Or.inr k2) hown (by omega)
      obtain ⟨V1, c1, sk1, sn1, st1, m1, m2, m3⟩ := mk_ok (m := x + 1) (by omega) hS (show z < x + 1 by omega)
      refine ⟨V1, c1, sk1, sn1, st1, ?_, m2, m3.cg (fun y hy => ?_)⟩
      · rw [ifT (show nI (kd p) = 2 by rw [k2]; rfl)]
        refine Eq.trans z5 ?_
        show f_M_spread_J154 so pi vS kb (nI z) (nI p) (nI c) sn st = _
        unfold f_M_spread_J154 f_M_spread_J167
        rw [ifF (nI_pos (by omega)), m1, ob]
        dsimp only
        rw [ifT hin, nI_clamp (by omega), hsp, ifF n3, ifT hin, ifF n0]
      · constructor
        · intro e
          subst e
          exact ⟨z1, Or.inr (Or.inr ⟨k2, z3, z4⟩)⟩
        · rintro ⟨y1, (⟨-, y2⟩ | ⟨y2, -⟩ | ⟨-, y3, y4⟩)⟩
          · omega
          · omega
          · have : y ≠ x := fun e => by rw [w3 y (by omega)] at y3; omega
            exact z6 y y1 (by omega) y3 y4
    · have n2 : ¬ nI (kd p) = 2 := lit 2 (by omega) k2
      rw [ifF n2, skip126]
      unfold f_M_spread_J154 f_M_spread_J167
      rw [ifT (by decide), ifT hin, nI_clamp (by omega), hsp]
      by_cases k3 : kd p = 3
      · have hpx : p < x := Nat.lt_of_le_of_ne (by omega) (fun e => by have := w3 p (by omega); omega)
        obtain ⟨V1, c1, sk1, sn1, st1, m1, m2, m3⟩ := mk_ok (m := x + 1) (by omega) hS (show p + 1 < x + 1 by omega)
        refine ⟨V1, c1, sk1, sn1, st1, ?_, m2, m3.cg (fun y hy => ?_)⟩
        · rw [ifT (show nI (kd p) = 3 by rw [k3]; rfl), nI_1, m1, ob]
        · constructor
          · intro e
            subst e
            exact ⟨by omega, Or.inl ⟨rfl, Or.inl k3⟩⟩
          · rintro ⟨y1, (⟨y2, -⟩ | ⟨y2, -⟩ | ⟨y2, -⟩)⟩
            · exact y2
            · omega
            · omega
      · have n3 : ¬ nI (kd p) = 3 := lit 3 (by omega) k3
        rw [ifF n3, ifT hin]
        by_cases k0 : kd p = 0
        · have hpx : p < x := Nat.lt_of_le_of_ne (by omega) (fun e => by have := w3 p (by omega); omega)
          obtain ⟨e1, e2⟩ := hpi p hpx k0
          have hpl := pn_lt hpx k0
          rw [ifT (show nI (kd p) = 0 by rw [k0]; rfl), ifT hin, e1, ifT (inB_nI (by omega) (by omega)), nI_clamp (by omega), e2]
          by_cases hs : sr p = true
          · obtain ⟨V1, c1, sk1, sn1, st1, m1, m2, m3⟩ := mk_ok (m := x + 1) (by omega) hS (show p + 1 < x + 1 by omega)
            refine ⟨V1, c1, sk1, sn1, st1, ?_, m2, m3.cg (fun y hy => ?_)⟩
            · rw [if_pos hs, ifF (by decide), nI_1, m1, ob]
            · constructor
              · intro e
                subst e
                exact ⟨by omega, Or.inl ⟨rfl, Or.inr ⟨k0, hs⟩⟩⟩
              · rintro ⟨y1, (⟨y2, -⟩ | ⟨y2, -⟩ | ⟨y2, -⟩)⟩
                · exact y2
                · omega
                · omega
          · refine ⟨V, c, sk, sn, st, ?_, hS, Gr.no (fun y hy => ?_)⟩
            · rw [if_neg hs, ifT rfl]
            · rintro ⟨y1, (⟨-, y2⟩ | ⟨y2, -⟩ | ⟨y2, -⟩)⟩
              · rcases y2 with y2 | y2
                · omega
                · exact hs y2.2
              · omega
              · omega
        · refine ⟨V, c, sk, sn, st, ?_, hS, Gr.no (fun y hy => ?_)⟩
          · have n0 : ¬ nI (kd p) = 0 := lit 0 (by omega) k0
            rw [ifF n0]
          · rintro ⟨y1, (⟨-, y2⟩ | ⟨y2, -⟩ | ⟨y2, -⟩)⟩
            · omega
            · omega
            · omega
theorem sp_loop (hfu : 100 ≤ fu) (hWS : WS n a x kd []) (hn : n ≤ 40) (hP : P0 + pn kd x ≤ 100) (hE : RMe P0 vB0 x kd sr S so pi on vB vS) {p0 : Nat} (kk : Int32 → (Nat → Int32) → (Nat → Int32) → Option ((Nat → Int32) × (Nat → Int32))) : ∀ (g f c : Nat) (V : Nat → Bool) (sk : Nat → Nat) (sn st : Nat → Int32), (x + 1 - cv V (x + 1)) + c ≤ g → g < f → DS (x + 1) V c sk sn st → V p0 = true → (∀ y, y < x + 1 → V y = true → Rr kd sr p0 y) → (∀ y, y < x + 1 → V y = true → (∃ i, i < c ∧ sk i = y) ∨ ∀ w, w < x + 1 → y < w → Ed kd sr y w → V w = true) →
    ∃ (r : Int32) (sn' st' : Nat → Int32) (V' : Nat → Bool), f_M_spread_L39 so pi on vS fu kk f (nI c) sn st = kk r sn' st' ∧ (∀ j, j < x + 1 → sn' j = if V' j = true then 1 else 0) ∧ ∀ y, y < x + 1 → (V' y = true ↔ Rr kd sr p0 y) := by
  intro g
  induction g with
  | zero =>
    intro f c V sk sn st hg hf hS h0 hR hC
    obtain ⟨f, rfl⟩ : ∃ g, f = g + 1 := ⟨f - 1, by omega⟩
    have hc : c = 0 := by omega
    subst hc
    rw [f_M_spread_L39_s, ifT (by decide)]
    refine ⟨_, sn, st, V, rfl, hS.1, fun y hy => ⟨hR y hy, ?_⟩⟩
    intro hr
    induction y using Nat.strongRecOn with
    | _ y ih =>
      rcases Rr.iff.mp hr with e | ⟨w, w1, w2, w3⟩
      · rw [e]; exact h0
      · rcases hC w (by omega) (ih w w1 (by omega) w3) with ⟨i, hi, -⟩ | q
        · omega
        · exact q y hy w1 w2
  | succ g ihg =>
    intro f c V sk sn st hg hf hS h0 hR hC
    obtain ⟨f, rfl⟩ : ∃ g, f = g + 1 := ⟨f - 1, by omega⟩
    have hx : x ≤ 40 := by have := hWS.1; have := hWS.2.1; omega
    have hcv := cv_le V (x + 1)
    cases c with
    | zero =>
      rw [f_M_spread_L39_s, ifT (by decide)]
      refine ⟨_, sn, st, V, rfl, hS.1, fun y hy => ⟨hR y hy, ?_⟩⟩
      intro hr
      induction y using Nat.strongRecOn with
      | _ y ih =>
        rcases Rr.iff.mp hr with e | ⟨w, w1, w2, w3⟩
        · rw [e]; exact h0
        · rcases hC w (by omega) (ih w w1 (by omega) w3) with ⟨i, hi, -⟩ | q
          · omega
          · exact q y hy w1 w2
    | succ c =>
      obtain ⟨s1, s2, s3⟩ := hS
      obtain ⟨p1, p2, p3⟩ := s2 c (by omega)
      have hS' : DS (x + 1) V c sk sn st := ⟨s1, fun i hi => s2 i (by omega), by omega⟩
      have hc1 : nI (c + 1) - 1 = nI c := pk_sub (b := 1) (by omega)
      have q0' : ¬ nI (c + 1) ≤ 0 := nI_ge (a := 0) (by omega) (by omega)
      obtain ⟨V', c', sk', sn', st', g1, g2, g3⟩ := it_ok hfu hWS hn hP hE (fun l2_39 v_seen_39 v_stack_39 => f_M_spread_L39 so pi on vS fu kk f l2_39 v_seen_39 v_stack_39) p2 hS'
      obtain ⟨d1, d2, d3, d4, d5⟩ := g3
      have hcv' := cv_le V' (x + 1)
      have hmono : ∀ y, y < x + 1 → V y = true → V' y = true := fun y hy h => (d1 y hy).mpr (Or.inl h)
      obtain ⟨r, sn2, st2, V2, e1, e2⟩ := ihg f c' V' sk' sn' st' (by omega) (by omega) g2 (by
        by_cases hp0 : p0 < x + 1
        · exact hmono p0 hp0 h0
        · -- the place is an item: what is seen is reached from it only
          exact absurd (Rr.iff.mp (hR (sk c) p2 p3)) (by
            intro q
            have : ∀ y, y < x + 1 → ¬ Rr kd sr p0 y := by
              intro y
              induction y using Nat.strongRecOn with
              | _ y ih =>
                intro hy hr
                rcases Rr.iff.mp hr with e | ⟨w, w1, w2, w3⟩
                · omega
                · exact ih w w1 (by omega) w3
            exact this _ p2 (hR (sk c) p2 p3))) (fun y hy hv => by
        rcases (d1 y hy).mp hv with q | ⟨q1, q2⟩
        · exact hR y hy q
        · exact Rr.iff.mpr (Or.inr ⟨sk c, q1, q2, hR (sk c) p2 p3⟩)) (fun y hy hv => by
        rcases d4 y hy hv with q | ⟨i, i1, i2, i3⟩
        · rcases hC y hy q with ⟨i, i1, i2⟩ | q2
          · by_cases e : i = c
            · right
              intro w w1 w2 w3
              rw [← i2, e] at w2 w3
              exact (d1 w w1).mpr (Or.inr ⟨w2, w3⟩)
            · exact Or.inl ⟨i, by omega, by rw [d3 i (by omega)]; exact i2⟩
          · exact Or.inr (fun w w1 w2 w3 => hmono w w1 (q2 w w1 w2 w3))
        · exact Or.inl ⟨i, i2, i3⟩)
      refine ⟨r, sn2, st2, V2, ?_, e2⟩
      rw [f_M_spread_L39_s, ifF q0', hc1, ifT (inB_nI (by omega) (by omega)), nI_clamp (by omega), p1, ifT (inB_nI (by omega) (by omega)), nI_clamp (by omega)]
      exact Eq.trans g1 e1
theorem sp_clear {m : Nat} (hm : m ≤ 42) (kk : Int32 → (Nat → Int32) → Option ((Nat → Int32) × (Nat → Int32))) : ∀ (d i f : Nat) (sn : Nat → Int32), i + d = m → d < f → (∀ j, j < i → sn j = 0) → ∃ sn', f_M_spread_L2 (nI m) kk f (nI i) sn = kk (nI m) sn' ∧ ∀ j, j < m → sn' j = 0
  | 0, i, f, sn, hd, hf, h => by
    obtain ⟨f, rfl⟩ : ∃ g, f = g + 1 := ⟨f - 1, by omega⟩
    have : i = m := by omega
    subst this
    rw [f_M_spread_L2_s, ifT (nI_le (Nat.le_refl _) (by omega))]
    exact ⟨sn, rfl, h⟩
  | d + 1, i, f, sn, hd, hf, h => by
    obtain ⟨f, rfl⟩ : ∃ g, f = g + 1 := ⟨f - 1, by omega⟩
    rw [f_M_spread_L2_s, ifF (nI_ge (by omega) (by omega)), ifT (inB_nI (by omega) (by omega)), nI_clamp (by omega), nI_1]
    refine sp_clear hm kk d (i + 1) f _ (by omega) (by omega) (fun j hj => ?_)
    by_cases e : j = i
    · subst e; rw [pk_us]; rfl
    · rw [pk_un e]; exact h j (by omega)
/-- what spread sees -/
theorem sp_ok (hfu : 200 ≤ fu) (hWS : WS n a x kd []) (hn : n ≤ 40) (hP : P0 + pn kd x ≤ 100) (hE : RMe P0 vB0 x kd sr S so pi on vB vS) {p0 : Nat} (hp0 : p0 < x + 1) (sn0 st0' : Nat → Int32) :
    ∃ (sn st : Nat → Int32) (V : Nat → Bool), f_M_spread fu (nI p0) (nI (x + 1)) so pi on sn0 st0' vS = some (sn, st) ∧ (∀ j, j < x + 1 → sn j = if V j = true then 1 else 0) ∧ ∀ y, y < x + 1 → (V y = true ↔ Rr kd sr p0 y) := by
  have hx : x ≤ 40 := by have := hWS.1; have := hWS.2.1; omega
  obtain ⟨sn1, c1, c2⟩ := sp_clear (m := x + 1) (by omega) (fun l2_2 v_seen_2 => (if inB (0 : Int32) 42 = true then (if inB (nI p0) 42 = true then (f_M_spread_L39 so pi on vS fu (fun l2_39 v_seen_39 v_stack_39 => some (v_seen_39, v_stack_39)) fu (1 : Int32) (upd v_seen_2 (nI p0).toNatClampNeg (vp_nar .boolean (1 : Int32))) (upd st0' (0 : Int32).toNatClampNeg (nI p0))) else none) else none)) (x + 1) 0 fu sn0 (by omega) (by omega) (fun j hj => absurd hj (Nat.not_lt_zero _))
  have hV1 : cv (va_up (fun _ => false) p0 true) (x + 1) = 1 := by
    rw [cv_up rfl (x + 1) hp0]
    have : ∀ k, cv (fun _ => false) k = 0 := by
      intro k
      induction k with
      | zero => rfl
      | succ k ih => rw [cv, ih]; rfl
    rw [this]
  have hVt : ∀ y, va_up (fun _ => false) p0 true y = true → y = p0 := fun y h => by
    by_cases e : y = p0
    · exact e
    · rw [up_n e] at h; cases h
  have hS : DS (x + 1) (va_up (fun _ => false) p0 true) 1 (fun _ => p0) (upd sn1 p0 1) (upd st0' 0 (nI p0)) := by
    refine ⟨fun j hj => ?_, fun i hi => ?_, by omega⟩
    · by_cases e : j = p0
      · subst e; rw [pk_us, up_s]; rfl
      · rw [pk_un e, up_n e, c2 j hj]; rfl
    · have : i = 0 := by omega
      subst this
      exact ⟨pk_us, hp0, up_s⟩
  obtain ⟨r, sn, st, V, g1, g2, g3⟩ := sp_loop (by omega : 100 ≤ fu) hWS hn hP hE (p0 := p0) (fun l2_39 v_seen_39 v_stack_39 => some (v_seen_39, v_stack_39)) (x + 2) fu 1 _ _ _ _ (by omega) (by omega) hS up_s (fun y hy hv => by
    rw [hVt y hv]
    exact Rr.iff.mpr (Or.inl rfl)) (fun y hy hv => Or.inl ⟨0, by omega, (hVt y hv).symm⟩)
  refine ⟨sn, st, V, ?_, g2, g3⟩
  unfold f_M_spread
  refine Eq.trans c1 ?_
  show (if inB (nI 0) 42 = true then (if inB (nI p0) 42 = true then (f_M_spread_L39 so pi on vS fu (fun l2_39 v_seen_39 v_stack_39 => some (v_seen_39, v_stack_39)) fu (nI 1) (upd sn1 (nI p0).toNatClampNeg 1) (upd st0' 0 (nI p0))) else none) else none) = _
  rw [ifT (inB_nI (by omega) (by omega)), ifT (inB_nI (by omega) (by omega)), nI_clamp (by omega)]
  exact g1
/-- what is marked -/
theorem mrk_loop (hx : x ≤ 40) (hP : P0 + pn kd x ≤ 60) (hE : RMe P0 vB0 x kd sr S so pi on vB vS) (h4 : kd x = 4) (hk4 : ∀ j, j < x → kd j ≤ 3) {sn : Nat → Int32} {V : Nat → Bool} (hs : ∀ j, j < x + 1 → sn j = if V j = true then 1 else 0) (kk : Int32 → Int64 → Option Int64) : ∀ (d k f : Nat) (acc : Int64), k + d = x + 1 → d < f → ∃ y, f_M_marked_L4 (nI (x + 1)) so pi sn kk f (nI k) acc = kk (nI (x + 1)) y ∧ ∀ i, lb y i = true ↔ lb acc i = true ∨ ∃ z, k ≤ z ∧ z < x ∧ kd z = 0 ∧ i = P0 + pn kd z ∧ V z = true
  | 0, k, f, acc, hd, hf => by
    obtain ⟨f, rfl⟩ : ∃ g, f = g + 1 := ⟨f - 1, by omega⟩
    have : k = x + 1 := by omega
    subst this
    rw [f_M_marked_L4_s, ifT (nI_le (Nat.le_refl _) (by omega))]
    refine ⟨acc, rfl, fun i => ⟨Or.inl, ?_⟩⟩
    rintro (h | ⟨z, h1, h2, -⟩)
    · exact h
    · omega
  | d + 1, k, f, acc, hd, hf => by
    obtain ⟨f, rfl⟩ : ∃ g, f = g + 1 := ⟨f - 1, by omega⟩
    have hin : inB (nI k) 42 = true := inB_nI (by omega) (by omega)
    have skip : ¬ (V k = true ∧ kd k = 0) → ∃ y, f_M_marked_L4 (nI (x + 1)) so pi sn kk f (nI (k + 1)) acc = kk (nI (x + 1)) y ∧ ∀ i, lb y i = true ↔ lb acc i = true ∨ ∃ z, k ≤ z ∧ z < x ∧ kd z = 0 ∧ i = P0 + pn kd z ∧ V z = true := fun hno => by
      obtain ⟨y, g1, g2⟩ := mrk_loop hx hP hE h4 hk4 hs kk d (k + 1) f acc (by omega) (by omega)
      refine ⟨y, g1, fun i => (g2 i).trans (or_congr Iff.rfl ?_)⟩
      constructor
      · rintro ⟨z, z1, z2⟩; exact ⟨z, by omega, z2⟩
      · rintro ⟨z, z1, z2, z3, z4, z5⟩
        refine ⟨z, ?_, z2, z3, z4, z5⟩
        have : z ≠ k := fun e => hno ⟨e ▸ z5, e ▸ z3⟩
        omega
    have hkd : kd k ≤ 4 := by
      by_cases e : k = x
      · rw [e, h4]; omega
      · have := hk4 k (by omega); omega
    rw [f_M_marked_L4_s, ifF (nI_ge (by omega) (by omega)), ifT hin, nI_clamp (by omega), hs k (by omega)]
    by_cases hv : V k = true
    · rw [if_pos hv, ifF (by decide), ifT hin, hE.1 k (by omega)]
      by_cases hk : kd k = 0
      · have hkx : k < x := Nat.lt_of_le_of_ne (by omega) (fun e => by rw [e, h4] at hk; omega)
        have hpl := pn_lt hkx hk
        rw [ifT (show nI (kd k) = 0 by rw [hk]; rfl), ifT hin, (hE.2.1 k hkx hk).1, nI_1]
        obtain ⟨y, g1, g2⟩ := mrk_loop hx hP hE h4 hk4 hs kk d (k + 1) f (acc ||| jlshl 1 (nI (P0 + pn kd k))) (by omega) (by omega)
        refine ⟨y, g1, fun i => (g2 i).trans ?_⟩
        rw [lb_or, Bool.or_eq_true, lb_bit _ (by omega), decide_eq_true_eq]
        constructor
        · rintro ((h1 | h1) | ⟨z, z1, z2⟩)
          · exact Or.inl h1
          · exact Or.inr ⟨k, Nat.le_refl _, hkx, hk, h1, hv⟩
          · exact Or.inr ⟨z, by omega, z2⟩
        · rintro (h1 | ⟨z, z1, z2, z3, z4, z5⟩)
          · exact Or.inl (Or.inl h1)
          · by_cases e : z = k
            · subst e; exact Or.inl (Or.inr z4)
            · exact Or.inr ⟨z, by omega, z2, z3, z4, z5⟩
      · have n0 : ¬ nI (kd k) = 0 := fun q => hk ((nI_eq (b := 0) (by omega) (by omega)).mp q)
        rw [ifF n0, nI_1]
        exact skip (fun q => hk q.2)
    · rw [if_neg hv, ifT rfl, nI_1]
      exact skip (fun q => hv q.1)
theorem mrk_ok (hfu : 100 ≤ fu) (hx : x ≤ 40) (hP : P0 + pn kd x ≤ 60) (hE : RMe P0 vB0 x kd sr S so pi on vB vS) (h4 : kd x = 4) (hk4 : ∀ j, j < x → kd j ≤ 3) {sn : Nat → Int32} {V : Nat → Bool} (hs : ∀ j, j < x + 1 → sn j = if V j = true then 1 else 0) : ∃ y, f_M_marked fu (nI (x + 1)) so pi sn = some y ∧ ∀ i, lb y i = true ↔ ∃ z, z < x ∧ kd z = 0 ∧ i = P0 + pn kd z ∧ V z = true := by
  obtain ⟨y, g1, g2⟩ := mrk_loop hx hP hE h4 hk4 hs (fun l3_4 l1_4 => some l1_4) (x + 1) 0 fu 0 (by omega) (by omega)
  refine ⟨y, g1, fun i => (g2 i).trans ?_⟩
  rw [lb_0]
  constructor
  · rintro (h | ⟨z, -, z2⟩)
    · cases h
    · exact ⟨z, z2⟩
  · rintro ⟨z, z2⟩; exact Or.inr ⟨z, Nat.zero_le _, z2⟩
end SPR2
