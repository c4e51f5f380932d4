/-! A GLOB'S ITEMS (kinds: 0 piece, 1 open, 2 comma, 3 close, 4 end; sr: the piece may come any number of times). What grows from the left (gs: the sources at which a way so far can end) is what is reached in the graph of items. -/
section RE
variable (kd : Nat → Nat) (sr : Nat → Bool)
/-- the choices that stand open before item x, by their open items, innermost first -/
def stk : Nat → List Nat
  | 0 => []
  | x + 1 => if kd x = 1 then x :: stk x else if kd x = 3 then (stk x).tail else stk x
def ow (x : Nat) : Nat := (stk kd x).headD 0
/-- pieces before item x -/
def pn : Nat → Nat
  | 0 => 0
  | x + 1 => if kd x = 0 then pn x + 1 else pn x
/-- steps without reading: from item y to item x -/
def Ed (y x : Nat) : Prop := (x = y + 1 ∧ (kd y = 3 ∨ (kd y = 0 ∧ sr y = true))) ∨ (kd y = 1 ∧ ∃ z, x = z + 1 ∧ (z = y ∨ (kd z = 2 ∧ ow kd z = y))) ∨ (kd y = 2 ∧ kd x = 3 ∧ ow kd x = ow kd y)
/-- where the ways behind source s begin: source 0 is the beginning, source p + 1 is piece p -/
def Src (s x : Nat) : Prop := (s = 0 ∧ x = 0) ∨ ∃ z, kd z = 0 ∧ s = pn kd z + 1 ∧ x = (if sr z = true then z else z + 1)
def Re (s x : Nat) : Prop := Src kd sr s x ∨ ∃ y, ∃ _ : y < x, Ed kd sr y x ∧ Re s y
termination_by x
def gs : Nat → (Nat → Prop) × List ((Nat → Prop) × (Nat → Prop))
  | 0 => (fun s => s = 0, [])
  | x + 1 =>
    if kd x = 0 then (if sr x = true then (fun s => (gs x).1 s ∨ s = pn kd x + 1, (gs x).2) else (fun s => s = pn kd x + 1, (gs x).2))
    else if kd x = 1 then ((gs x).1, ((gs x).1, fun _ => False) :: (gs x).2)
    else if kd x = 2 then (match (gs x).2 with
      | (b, o) :: r => (b, (b, fun s => o s ∨ (gs x).1 s) :: r)
      | [] => ((gs x).1, []))
    else if kd x = 3 then (match (gs x).2 with
      | (_, o) :: r => (fun s => (gs x).1 s ∨ o s, r)
      | [] => ((gs x).1, []))
    else (fun _ => False, (gs x).2)
/-- the sources from which item x is come to -/
def Ar (x s : Nat) : Prop := (gs kd sr x).1 s ∨ (kd x = 0 ∧ sr x = true ∧ s = pn kd x + 1) ∨ (kd x = 3 ∧ ∃ p r, (gs kd sr x).2 = p :: r ∧ p.2 s)
variable {kd sr}
theorem stk_lt : ∀ x, ∀ o ∈ stk kd x, o < x ∧ kd o = 1
  | 0, o, h => by simp [stk] at h
  | x + 1, o, h => by
    unfold stk at h
    by_cases h1 : kd x = 1
    · rw [if_pos h1] at h
      rcases List.mem_cons.mp h with rfl | h
      · exact ⟨by omega, h1⟩
      · have := stk_lt x o h; exact ⟨by omega, this.2⟩
    · rw [if_neg h1] at h
      by_cases h3 : kd x = 3
      · rw [if_pos h3] at h
        have := stk_lt x o (List.mem_of_mem_tail h); exact ⟨by omega, this.2⟩
      · rw [if_neg h3] at h
        have := stk_lt x o h; exact ⟨by omega, this.2⟩
theorem stk_nd : ∀ x, (stk kd x).Nodup
  | 0 => by simp [stk]
  | x + 1 => by
    unfold stk
    by_cases h1 : kd x = 1
    · rw [if_pos h1]
      refine List.nodup_cons.mpr ⟨fun h => ?_, stk_nd x⟩
      have := (stk_lt x x h).1; omega
    · rw [if_neg h1]
      by_cases h3 : kd x = 3
      · rw [if_pos h3]; exact (stk_nd x).sublist (List.tail_sublist _)
      · rw [if_neg h3]; exact stk_nd x
theorem ow_mem {x : Nat} (h : stk kd x ≠ []) : ow kd x ∈ stk kd x := by
  unfold ow
  cases hs : stk kd x with
  | nil => exact absurd hs h
  | cons a l => simp
theorem ow_cons {x o : Nat} {r : List Nat} (h : stk kd x = o :: r) : ow kd x = o := by unfold ow; rw [h]; rfl
/-- what the stack's rows hold -/
def Rows (kd : Nat → Nat) (sr : Nat → Bool) (x : Nat) : List Nat → List ((Nat → Prop) × (Nat → Prop)) → Prop
  | [], [] => True
  | o :: r, p :: q => (∀ s, p.1 s ↔ Re kd sr s o) ∧ (∀ s, p.2 s ↔ ∃ z, z < x ∧ kd z = 2 ∧ stk kd z ≠ [] ∧ ow kd z = o ∧ Re kd sr s z) ∧ Rows kd sr x r q
  | _, _ => False
theorem Rows.same {x : Nat} (hx : ¬ kd x = 2) : ∀ (l : List Nat) (q : List ((Nat → Prop) × (Nat → Prop))), Rows kd sr x l q → Rows kd sr (x + 1) l q
  | [], [], _ => trivial
  | o :: r, p :: q, h => ⟨h.1, fun s => by
      rw [h.2.1 s]
      constructor
      · rintro ⟨z, h1, h2⟩; exact ⟨z, by omega, h2⟩
      · rintro ⟨z, h1, h2⟩
        refine ⟨z, ?_, h2⟩
        have : z ≠ x := fun e => hx (by rw [← e]; exact h2.1)
        omega, Rows.same hx r q h.2.2⟩
  | [], _ :: _, h => h.elim
  | _ :: _, [], h => h.elim
theorem Rows.other {x : Nat} : ∀ (l : List Nat) (q : List ((Nat → Prop) × (Nat → Prop))), ow kd x ∉ l → Rows kd sr x l q → Rows kd sr (x + 1) l q
  | [], [], _, _ => trivial
  | o :: r, p :: q, hn, h => ⟨h.1, fun s => by
      rw [h.2.1 s]
      constructor
      · rintro ⟨z, h1, h2⟩; exact ⟨z, by omega, h2⟩
      · rintro ⟨z, h1, h2⟩
        refine ⟨z, ?_, h2⟩
        have : z ≠ x := fun e => hn (by rw [← e, h2.2.2.1]; exact List.mem_cons_self)
        omega, Rows.other r q (fun hm => hn (List.mem_cons_of_mem _ hm)) h.2.2⟩
  | [], _ :: _, _, h => h.elim
  | _ :: _, [], _, h => h.elim
theorem Re.iff {s x : Nat} : Re kd sr s x ↔ Src kd sr s x ∨ ∃ y, y < x ∧ Ed kd sr y x ∧ Re kd sr s y := by
  rw [Re]
  constructor
  · rintro (h | ⟨y, h1, h2⟩)
    · exact Or.inl h
    · exact Or.inr ⟨y, h1, h2⟩
  · rintro (h | ⟨y, h1, h2⟩)
    · exact Or.inl h
    · exact Or.inr ⟨y, h1, h2⟩
/-- a comma or a close stands in a choice -/
def WK3 (kd : Nat → Nat) (m : Nat) : Prop := ∀ x, x < m → (kd x = 2 ∨ kd x = 3) → stk kd x ≠ []
/-- falling into x, not from the commas of its choice -/
def Fa (kd : Nat → Nat) (sr : Nat → Bool) (s x : Nat) : Prop := (s = 0 ∧ x = 0) ∨ (∃ z, kd z = 0 ∧ ¬ sr z = true ∧ s = pn kd z + 1 ∧ x = z + 1) ∨ ∃ y, y < x ∧ Re kd sr s y ∧ ((x = y + 1 ∧ (kd y = 3 ∨ (kd y = 0 ∧ sr y = true))) ∨ (kd y = 1 ∧ ∃ z, x = z + 1 ∧ (z = y ∨ (kd z = 2 ∧ ow kd z = y))))
theorem Ar_of {m x : Nat} (hW : WK3 kd m) (hx : x < m) (hB : ∀ s, (gs kd sr x).1 s ↔ Fa kd sr s x) (hC : Rows kd sr x (stk kd x) (gs kd sr x).2) (s : Nat) : Ar kd sr x s ↔ Re kd sr s x := by
  rw [Re.iff]
  unfold Ar
  rw [hB s]
  constructor
  · rintro ((⟨h1, h2⟩ | ⟨z, h1, h2, h3, h4⟩ | ⟨y, h1, h2, h3⟩) | ⟨h1, h2, h3⟩ | ⟨h1, p, r, h2, h3⟩)
    · exact Or.inl (Or.inl ⟨h1, h2⟩)
    · exact Or.inl (Or.inr ⟨z, h1, h3, by rw [if_neg h2]; exact h4⟩)
    · refine Or.inr ⟨y, h1, ?_, h2⟩
      rcases h3 with h3 | h3
      · exact Or.inl h3
      · exact Or.inr (Or.inl h3)
    · exact Or.inl (Or.inr ⟨x, h1, h3, by rw [if_pos h2]⟩)
    · have hne := hW x hx (Or.inr h1)
      cases hs : stk kd x with
      | nil => exact absurd hs hne
      | cons o l =>
        rw [hs, h2] at hC
        obtain ⟨z, z1, z2, z3, z4, z5⟩ := (hC.2.1 s).mp h3
        exact Or.inr ⟨z, z1, Or.inr (Or.inr ⟨z2, h1, by rw [ow_cons hs, z4]⟩), z5⟩
  · rintro ((⟨h1, h2⟩ | ⟨z, h1, h2, h3⟩) | ⟨y, h1, h2, h3⟩)
    · exact Or.inl (Or.inl ⟨h1, h2⟩)
    · by_cases hz : sr z = true
      · rw [if_pos hz] at h3
        subst h3
        exact Or.inr (Or.inl ⟨h1, hz, h2⟩)
      · rw [if_neg hz] at h3
        exact Or.inl (Or.inr (Or.inl ⟨z, h1, hz, h2, h3⟩))
    · rcases h2 with h2 | h2 | ⟨h2, h4, h5⟩
      · exact Or.inl (Or.inr (Or.inr ⟨y, h1, h3, Or.inl h2⟩))
      · exact Or.inl (Or.inr (Or.inr ⟨y, h1, h3, Or.inr h2⟩))
      · have hne := hW x hx (Or.inr h4)
        have hny := hW y (by omega) (Or.inl h2)
        refine Or.inr (Or.inr ⟨h4, ?_⟩)
        cases hs : stk kd x with
        | nil => exact absurd hs hne
        | cons o l =>
          rw [hs] at hC
          cases hg : (gs kd sr x).2 with
          | nil => rw [hg] at hC; exact hC.elim
          | cons p r =>
            rw [hg] at hC
            exact ⟨p, r, rfl, (hC.2.1 s).mpr ⟨y, h1, h2, hny, by rw [← h5, ow_cons hs], h3⟩⟩
theorem gs_main {m : Nat} (hW : WK3 kd m) : ∀ x, x ≤ m → (∀ s, (gs kd sr x).1 s ↔ Fa kd sr s x) ∧ Rows kd sr x (stk kd x) (gs kd sr x).2
  | 0, _ => by
    refine ⟨fun s => ?_, trivial⟩
    unfold gs Fa
    constructor
    · intro h; exact Or.inl ⟨h, rfl⟩
    · rintro (h | ⟨z, _, _, _, h⟩ | ⟨y, h, _⟩)
      · exact h.1
      · omega
      · omega
  | x + 1, hx => by
    obtain ⟨hB, hC⟩ := gs_main hW x (by omega)
    have hA := Ar_of hW (by omega : x < m) hB hC
    by_cases k0 : kd x = 0
    · have e3 : stk kd (x + 1) = stk kd x := by rw [stk, if_neg (by omega), if_neg (by omega)]
      by_cases hs : sr x = true
      · have e1 : gs kd sr (x + 1) = (fun s => (gs kd sr x).1 s ∨ s = pn kd x + 1, (gs kd sr x).2) := by rw [gs, if_pos k0, if_pos hs]
        rw [e1, e3]
        refine ⟨fun s => ?_, Rows.same (by omega) _ _ hC⟩
        have hAs := hA s
        unfold Ar at hAs
        constructor
        · intro h
          refine Or.inr (Or.inr ⟨x, by omega, hAs.mp ?_, Or.inl ⟨rfl, Or.inr ⟨k0, hs⟩⟩⟩)
          rcases h with h | h
          · exact Or.inl h
          · exact Or.inr (Or.inl ⟨k0, hs, h⟩)
        · rintro (h | ⟨z, h1, h2, h3, h4⟩ | ⟨y, h1, h2, h3⟩)
          · omega
          · have : z = x := by omega
            subst this
            exact absurd hs h2
          · rcases h3 with ⟨h3, -⟩ | ⟨h3, z, h4, h5⟩
            · have : y = x := by omega
              subst this
              rcases hAs.mpr h2 with h | h | h
              · exact Or.inl h
              · exact Or.inr h.2.2
              · omega
            · have : z = x := by omega
              subst this
              rcases h5 with h5 | h5
              · subst h5; omega
              · omega
      · have e1 : gs kd sr (x + 1) = (fun s => s = pn kd x + 1, (gs kd sr x).2) := by rw [gs, if_pos k0, if_neg hs]
        rw [e1, e3]
        refine ⟨fun s => ?_, Rows.same (by omega) _ _ hC⟩
        constructor
        · intro h
          exact Or.inr (Or.inl ⟨x, k0, hs, h, rfl⟩)
        · rintro (h | ⟨z, h1, h2, h3, h4⟩ | ⟨y, h1, h2, h3⟩)
          · omega
          · have : z = x := by omega
            subst this
            exact h3
          · rcases h3 with ⟨h3, h6⟩ | ⟨h3, z, h4, h5⟩
            · have : y = x := by omega
              subst this
              rcases h6 with h6 | h6
              · omega
              · exact absurd h6.2 hs
            · have : z = x := by omega
              subst this
              rcases h5 with h5 | h5
              · subst h5; omega
              · omega
    · by_cases k1 : kd x = 1
      · have e3 : stk kd (x + 1) = x :: stk kd x := by rw [stk, if_pos k1]
        have e1 : gs kd sr (x + 1) = ((gs kd sr x).1, ((gs kd sr x).1, fun _ => False) :: (gs kd sr x).2) := by rw [gs, if_neg k0, if_pos k1]
        rw [e1, e3]
        have hR : ∀ s, (gs kd sr x).1 s ↔ Re kd sr s x := fun s => by
          rw [← hA s]
          unfold Ar
          constructor
          · exact Or.inl
          · rintro (h | h | h)
            · exact h
            · exact absurd h.1 k0
            · omega
        refine ⟨fun s => ?_, hR, fun s => ?_, Rows.same (by omega) _ _ hC⟩
        · rw [hR s]
          constructor
          · intro h; exact Or.inr (Or.inr ⟨x, by omega, h, Or.inr ⟨k1, x, rfl, Or.inl rfl⟩⟩)
          · rintro (h | ⟨z, h1, h2, h3, h4⟩ | ⟨y, h1, h2, h3⟩)
            · omega
            · have : z = x := by omega
              subst this; omega
            · rcases h3 with ⟨h3, h6⟩ | ⟨h3, z, h4, h5⟩
              · have : y = x := by omega
                subst this; omega
              · have : z = x := by omega
                subst this
                rcases h5 with h5 | h5
                · subst h5; exact h2
                · omega
        · constructor
          · intro h; exact h.elim
          · rintro ⟨z, h1, h2, h3, h4, h5⟩
            have := (stk_lt z _ (ow_mem h3)).1
            rw [h4] at this
            omega
      · by_cases k2 : kd x = 2
        · have hne := hW x (by omega) (Or.inl k2)
          have e3 : stk kd (x + 1) = stk kd x := by rw [stk, if_neg k1, if_neg (by omega)]
          cases hs : stk kd x with
          | nil => exact absurd hs hne
          | cons o l =>
            rw [hs] at hC
            cases hg : (gs kd sr x).2 with
            | nil => rw [hg] at hC; exact hC.elim
            | cons p r =>
              obtain ⟨b, c⟩ := p
              rw [hg] at hC
              have e1 : gs kd sr (x + 1) = (b, (b, fun s => c s ∨ (gs kd sr x).1 s) :: r) := by rw [gs, if_neg k0, if_neg k1, if_pos k2, hg]
              have hR : ∀ s, (gs kd sr x).1 s ↔ Re kd sr s x := fun s => by
                rw [← hA s]
                unfold Ar
                constructor
                · exact Or.inl
                · rintro (h | h | h)
                  · exact h
                  · exact absurd h.1 k0
                  · omega
              have ho := stk_lt x o (by rw [hs]; exact List.mem_cons_self)
              rw [e1, e3, hs]
              refine ⟨fun s => ?_, hC.1, fun s => ?_, Rows.other _ _ ?_ hC.2.2⟩
              · have hb1 : b s ↔ Re kd sr s o := hC.1 s
                show b s ↔ _
                rw [hb1]
                constructor
                · intro h
                  exact Or.inr (Or.inr ⟨o, by omega, h, Or.inr ⟨ho.2, x, rfl, Or.inr ⟨k2, ow_cons hs⟩⟩⟩)
                · rintro (h | ⟨z, h1, h2, h3, h4⟩ | ⟨y, h1, h2, h3⟩)
                  · omega
                  · have : z = x := by omega
                    subst this; omega
                  · rcases h3 with ⟨h3, h6⟩ | ⟨h3, z, h4, h5⟩
                    · have : y = x := by omega
                      subst this; omega
                    · have : z = x := by omega
                      subst this
                      rcases h5 with h5 | h5
                      · subst h5; omega
                      · rw [ow_cons hs] at h5
                        rw [h5.2]; exact h2
              · have hc1 : c s ↔ ∃ z, z < x ∧ kd z = 2 ∧ stk kd z ≠ [] ∧ ow kd z = o ∧ Re kd sr s z := hC.2.1 s
                show c s ∨ (gs kd sr x).1 s ↔ _
                rw [hc1, hR s]
                constructor
                · rintro (⟨z, h1, h2⟩ | h)
                  · exact ⟨z, by omega, h2⟩
                  · exact ⟨x, by omega, k2, hne, ow_cons hs, h⟩
                · rintro ⟨z, h1, h2, h3, h4, h5⟩
                  by_cases hz : z = x
                  · subst hz; exact Or.inr h5
                  · exact Or.inl ⟨z, by omega, h2, h3, h4, h5⟩
              · rw [ow_cons hs]
                have := stk_nd (kd := kd) x
                rw [hs] at this
                exact (List.nodup_cons.mp this).1
        · by_cases k3 : kd x = 3
          · have hne := hW x (by omega) (Or.inr k3)
            cases hs : stk kd x with
            | nil => exact absurd hs hne
            | cons o l =>
              have e3 : stk kd (x + 1) = l := by rw [stk, if_neg k1, if_pos k3, hs]; rfl
              rw [hs] at hC
              cases hg : (gs kd sr x).2 with
              | nil => rw [hg] at hC; exact hC.elim
              | cons p r =>
                obtain ⟨b, c⟩ := p
                rw [hg] at hC
                have e1 : gs kd sr (x + 1) = (fun s => (gs kd sr x).1 s ∨ c s, r) := by rw [gs, if_neg k0, if_neg k1, if_neg k2, if_pos k3, hg]
                rw [e1, e3]
                refine ⟨fun s => ?_, Rows.same k2 _ _ hC.2.2⟩
                have hAs := hA s
                unfold Ar at hAs
                rw [hg] at hAs
                constructor
                · intro h
                  refine Or.inr (Or.inr ⟨x, by omega, hAs.mp ?_, Or.inl ⟨rfl, Or.inl k3⟩⟩)
                  rcases h with h | h
                  · exact Or.inl h
                  · exact Or.inr (Or.inr ⟨k3, _, _, rfl, h⟩)
                · rintro (h | ⟨z, h1, h2, h3, h4⟩ | ⟨y, h1, h2, h3⟩)
                  · omega
                  · have : z = x := by omega
                    subst this; omega
                  · rcases h3 with ⟨h3, -⟩ | ⟨h3, z, h4, h5⟩
                    · have : y = x := by omega
                      subst this
                      rcases hAs.mpr h2 with h | h | ⟨-, p', r', h6, h7⟩
                      · exact Or.inl h
                      · exact absurd h.1 k0
                      · cases h6; exact Or.inr h7
                    · have : z = x := by omega
                      subst this
                      rcases h5 with h5 | h5
                      · subst h5; omega
                      · omega
          · have e3 : stk kd (x + 1) = stk kd x := by rw [stk, if_neg k1, if_neg k3]
            have e1 : gs kd sr (x + 1) = (fun _ => False, (gs kd sr x).2) := by rw [gs, if_neg k0, if_neg k1, if_neg k2, if_neg k3]
            rw [e1, e3]
            refine ⟨fun s => ⟨fun h => h.elim, ?_⟩, Rows.same k2 _ _ hC⟩
            rintro (h | ⟨z, h1, h2, h3, h4⟩ | ⟨y, h1, h2, h3⟩)
            · omega
            · have : z = x := by omega
              subst this; omega
            · rcases h3 with ⟨h3, h6⟩ | ⟨h3, z, h4, h5⟩
              · have : y = x := by omega
                subst this; omega
              · have : z = x := by omega
                subst this
                rcases h5 with h5 | h5
                · subst h5; omega
                · omega
theorem gs_reach {m x : Nat} (hW : WK3 kd m) (hx : x < m) (s : Nat) : Ar kd sr x s ↔ Re kd sr s x := Ar_of hW hx (gs_main hW x (by omega)).1 (gs_main hW x (by omega)).2 s
end RE
