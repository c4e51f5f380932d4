/-! the reference reads a glob: to the end -/
section RME
variable {t : Nat → Nat} {n off tl fu : Nat} {vT : Nat → Int32} {P0 : Nat} {vB0 : Nat → Int64}
theorem rdM_loop (hT : TXM t n off tl vT) (hP0 : P0 ≤ 60) (hfu : 200 ≤ fu) (k0 k1 k2 k3 : Int32 → Int32 → Int32 → Int32 → (Nat → Int32) → (Nat → Int32) → (Nat → Int32) → (Nat → Int32) → (Nat → Int64) → (Nat → Int32) → Option (Int32 × Int32 × Int32 × (Nat → Int32) × (Nat → Int32) × (Nat → Int32) × (Nat → Int32) × (Nat → Int64) × (Nat → Int32))) : ∀ (g f a x : Nat) (kd : Nat → Nat) (sr : Nat → Bool) (S : Nat → SS) (lr : List Nat) (it pcs : Int32) (so pi on op : Nat → Int32) (vB : Nat → Int64) (vS : Nat → Int32), n ≤ a + g → g < f → WS n a x kd lr → RMd P0 vB0 x kd sr S lr it pcs so pi on op vB vS →
    (∀ j, pz t n g (a, x, kd, sr, S, lr) = .inl j → ∃ l4 it' pcs' so' pi' on' op' vB' vS', f_M_read_L11 vT tl (nI off) (nI n) fu k0 k1 k2 k3 f (nI a) (nI lr.length) it pcs so pi on op vB vS = k0 (nI j) l4 it' pcs' so' pi' on' op' vB' vS' ∨ f_M_read_L11 vT tl (nI off) (nI n) fu k0 k1 k2 k3 f (nI a) (nI lr.length) it pcs so pi on op vB vS = k1 (-1 - nI j) l4 it' pcs' so' pi' on' op' vB' vS' ∨ f_M_read_L11 vT tl (nI off) (nI n) fu k0 k1 k2 k3 f (nI a) (nI lr.length) it pcs so pi on op vB vS = k2 (nI j) l4 it' pcs' so' pi' on' op' vB' vS') ∧
    ∀ a' x' kd' sr' S' lr', pz t n g (a, x, kd, sr, S, lr) = .inr (a', x', kd', sr', S', lr') → ∃ it' pcs' so' pi' on' op' vB' vS', f_M_read_L11 vT tl (nI off) (nI n) fu k0 k1 k2 k3 f (nI a) (nI lr.length) it pcs so pi on op vB vS = k3 (nI a') (nI lr'.length) it' pcs' so' pi' on' op' vB' vS' ∧ WS n a' x' kd' lr' ∧ RMd P0 vB0 x' kd' sr' S' lr' it' pcs' so' pi' on' op' vB' vS' := by
  intro g
  have hn := hT.1
  induction g with
  | zero =>
    intro f a x kd sr S lr it pcs so pi on op vB vS h1 h2 hW hR
    obtain ⟨f, rfl⟩ : ∃ g, f = g + 1 := ⟨f - 1, by omega⟩
    have := hW.2.1
    refine ⟨fun j e => (by cases e), fun a' x' kd' sr' S' lr' e => ?_⟩
    cases e
    rw [f_M_read_L11_s, ifT (nI_le (by omega) (by omega))]
    exact ⟨_, _, _, _, _, _, _, _, rfl, hW, hR⟩
  | succ g ih =>
    intro f a x kd sr S lr it pcs so pi on op vB vS h1 h2 hW hR
    obtain ⟨f, rfl⟩ : ∃ g, f = g + 1 := ⟨f - 1, by omega⟩
    have han := hW.2.1
    by_cases ha : a < n
    · rw [pz, if_pos ha]
      obtain ⟨u1, u2⟩ := uM_ok hT hP0 hfu k0 k1 k2 k3 (f := f) hW ha hR
      obtain ⟨o1, o2⟩ := un_ok (t := t) (dp := lr.length) (rw_ := decide (kd (lr.headD 0) = 2)) ha
      cases hu : un t n a lr.length (decide (kd (lr.headD 0) = 2)) with
      | inl j =>
        refine ⟨fun j' e => ?_, fun a' x' kd' sr' S' lr' e => (by cases e)⟩
        cases e
        exact u1 j hu
      | inr u =>
        obtain ⟨it', pcs', so', pi', on', op', vB', vS', e1, e2⟩ := u2 u hu
        obtain ⟨v1, v2, v3, v4, v5, v6⟩ := o2 u hu
        have hW' := hW.step v1 v2 v3 v4 v5 (fun z => (v6 z).1)
        rw [e1]
        exact ih f u.2.2.2 (x + 1) _ _ _ _ it' pcs' so' pi' on' op' vB' vS' (by omega) (by omega) hW' e2
    · rw [pz, if_neg ha]
      refine ⟨fun j e => (by cases e), fun a' x' kd' sr' S' lr' e => ?_⟩
      cases e
      rw [f_M_read_L11_s, ifT (nI_le (by omega) (by omega))]
      exact ⟨_, _, _, _, _, _, _, _, rfl, hW, hR⟩
/-- items that are read to their end -/
def RMe (P0 : Nat) (vB0 : Nat → Int64) (x : Nat) (kd : Nat → Nat) (sr : Nat → Bool) (S : Nat → SS) (so pi on : Nat → Int32) (vB : Nat → Int64) (vS : Nat → Int32) : Prop :=
  (∀ j, j < x + 1 → so j = nI (kd j)) ∧ (∀ j, j < x → kd j = 0 → pi j = nI (P0 + pn kd j) ∧ vS (P0 + pn kd j) = (if sr j = true then 1 else 0)) ∧ (∀ j, j < x → (kd j = 1 ∨ kd j = 2) → ONx kd x j on) ∧ HBf P0 (pn kd x) vB0 S vB
theorem rdM_ok (hT : TXM t n off tl vT) (hP0 : P0 ≤ 60) (hfu : 200 ≤ fu) (so0 pi0 on0 op0 : Nat → Int32) (vS0 : Nat → Int32) :
    (∀ j, parse t n = .inl j → ∃ it pcs so pi on op vB vS, f_M_read fu tl (nI off) (nI n) (nI P0) so0 pi0 on0 op0 vB0 vS0 vT = some (-1 - nI j, it, pcs, so, pi, on, op, vB, vS)) ∧
    ∀ a x kd sr S lr, parse t n = .inr (a, x, kd, sr, S, lr) → ∃ so pi on op vB vS, f_M_read fu tl (nI off) (nI n) (nI P0) so0 pi0 on0 op0 vB0 vS0 vT = some (0, nI (x + 1), nI (P0 + pn kd x), so, pi, on, op, vB, vS) ∧ WS n a x kd [] ∧ RMe P0 vB0 x kd sr S so pi on vB vS := by
  have hn := hT.1
  have hR0 : RMd P0 vB0 0 (fun _ => 4) (fun _ => false) (fun _ _ => false) [] 0 (nI P0) so0 pi0 on0 op0 vB0 vS0 := ⟨rfl, rfl, fun j hj => absurd hj (Nat.not_lt_zero _), fun j hj => absurd hj (Nat.not_lt_zero _), trivial, fun j hj => absurd hj (Nat.not_lt_zero _), fun p _ b _ => rfl, fun q hq => absurd hq (Nat.not_lt_zero _)⟩
  obtain ⟨m1, m2⟩ := rdM_loop hT hP0 hfu (fun l5_11 l4_11 v_items_11 v_pieces_11 v_sort_11 v_piece_11 v_onward_11 v_open_11 v_bytes_11 v_star_11 => some (((-1 : Int32) - l5_11), v_items_11, v_pieces_11, v_sort_11, v_piece_11, v_onward_11, v_open_11, v_bytes_11, v_star_11)) (fun l5_11 l4_11 v_items_11 v_pieces_11 v_sort_11 v_piece_11 v_onward_11 v_open_11 v_bytes_11 v_star_11 => some (l5_11, v_items_11, v_pieces_11, v_sort_11, v_piece_11, v_onward_11, v_open_11, v_bytes_11, v_star_11)) (fun l5_11 l4_11 v_items_11 v_pieces_11 v_sort_11 v_piece_11 v_onward_11 v_open_11 v_bytes_11 v_star_11 => some (((-1 : Int32) - l5_11), v_items_11, v_pieces_11, v_sort_11, v_piece_11, v_onward_11, v_open_11, v_bytes_11, v_star_11)) (fun l5_11 l4_11 v_items_11 v_pieces_11 v_sort_11 v_piece_11 v_onward_11 v_open_11 v_bytes_11 v_star_11 => (if 0 < l4_11 then some (((-1 : Int32) - nI n), v_items_11, v_pieces_11, v_sort_11, v_piece_11, v_onward_11, v_open_11, v_bytes_11, v_star_11) else (if nI n = 0 then some (((-1 : Int32) - nI n), v_items_11, v_pieces_11, v_sort_11, v_piece_11, v_onward_11, v_open_11, v_bytes_11, v_star_11) else (Option.bind (f_M_item (4 : Int32) (0 : Int32) v_items_11 v_sort_11 v_piece_11 v_onward_11) fun (yv_items_44, yv_sort_45, yv_piece_46, yv_onward_47) => some ((0 : Int32), yv_items_44, v_pieces_11, yv_sort_45, yv_piece_46, yv_onward_47, v_open_11, v_bytes_11, v_star_11))))) n fu 0 0 _ _ _ _ _ _ _ _ _ _ _ _ (by omega) (by omega) (WS0 n) hR0
  unfold parse
  cases hp : pz t n n st0 with
  | inl k =>
    refine ⟨fun j e => ?_, fun a x kd sr S lr e => (by cases e)⟩
    cases e
    obtain ⟨l4, it, pcs, so, pi, on, op, vB, vS, h⟩ := m1 k hp
    refine ⟨it, pcs, so, pi, on, op, vB, vS, ?_⟩
    rcases h with h | h | h
    · exact h
    · exact h
    · exact h
  | inr st =>
    obtain ⟨a', x', kd', sr', S', lr'⟩ := st
    obtain ⟨it, pcs, so, pi, on, op, vB, vS, e1, e2, e3⟩ := m2 a' x' kd' sr' S' lr' hp
    have hl2 : lr'.length ≤ 2 := e2.2.2.2.2.2.1
    by_cases hc : n = 0 ∨ ¬ lr' = []
    · have ec : (if n = 0 ∨ ¬ (a', x', kd', sr', S', lr').2.2.2.2.2 = [] then (.inl n : Nat ⊕ PS) else .inr (a', x', kd', sr', S', lr')) = .inl n := if_pos hc
      refine ⟨fun j e => ?_, fun a x kd sr S lr e => ?_⟩
      · have e' := ec.symm.trans e
        cases e'
        refine ⟨it, pcs, so, pi, on, op, vB, vS, Eq.trans e1 ?_⟩
        by_cases z : (0 : Int32) < nI lr'.length
        · exact ifT z
        · refine (ifF z).trans ?_
          have hn0 : n = 0 := by
            rcases hc with hc | hc
            · exact hc
            · exfalso
              apply z
              cases hl : lr' with
              | nil => exact absurd hl hc
              | cons j r => exact nI_lt (a := 0) (by simp) (by rw [hl] at hl2; simp at hl2; simp; omega)
          subst hn0
          exact ifT rfl
      · have e' := ec.symm.trans e
        cases e'
    · have ec : (if n = 0 ∨ ¬ (a', x', kd', sr', S', lr').2.2.2.2.2 = [] then (.inl n : Nat ⊕ PS) else .inr (a', x', kd', sr', S', lr')) = .inr (a', x', kd', sr', S', lr') := if_neg hc
      have hl : lr' = [] := Classical.byContradiction fun z => hc (Or.inr z)
      have hn0 : ¬ n = 0 := fun z => hc (Or.inl z)
      subst hl
      refine ⟨fun j e => ?_, fun a x kd sr S lr e => ?_⟩
      · have e' := ec.symm.trans e
        cases e'
      · have e' := ec.symm.trans e
        cases e'
        obtain ⟨r1, r2, r3, r4, r5, r6, r7⟩ := e3
        have hx : x' < 42 := by have := e2.1; have := e2.2.1; omega
        refine ⟨upd so x' 4, upd pi x' 0, upd on x' (-1), op, vB, vS, Eq.trans e1 ?_, e2, ?_⟩
        · refine (ifF (show ¬ (0 : Int32) < nI ([] : List Nat).length by decide)).trans ((ifF (nI_ne0 (by omega) (by omega))).trans ?_)
          rw [r1, item_ok hx, ob, r2]
        · refine ⟨fun j hj => ?_, fun j hj hk => ?_, fun j hj hk => ?_, r7⟩
          · by_cases z : j = x'
            · subst z; rw [pk_us, e2.2.2.1 j (Nat.le_refl _)]; rfl
            · rw [pk_un z]; exact r3 j (by omega)
          · rw [pk_un (by omega)]; exact r4 j hj hk
          · rcases r6 j hj hk with ⟨o1, -⟩ | ⟨z, z1, z2, z3, z4⟩
            · simp at o1
            · exact ⟨z, z1, z2, by rw [pk_un (by omega)]; exact z3, z4⟩
end RME
