/-! the reference reads a glob: the whole text -/
def own (kd : Nat → Nat) (j : Nat) : Nat := if kd j = 1 then j else ow kd j
/-- rows of a choice are chained -/
def ONx (kd : Nat → Nat) (x j : Nat) (on : Nat → Int32) : Prop := ∃ z, j < z ∧ z < x ∧ on j = nI z ∧ (kd z = 2 ∨ kd z = 3) ∧ ow kd z = own kd j ∧ ∀ w, j < w → w < z → (kd w = 2 ∨ kd w = 3) → ¬ ow kd w = own kd j
def ON (kd : Nat → Nat) (x : Nat) (on : Nat → Int32) (lr : List Nat) : Prop := ∀ j, j < x → (kd j = 1 ∨ kd j = 2) → (j ∈ lr ∧ on j = -1) ∨ ONx kd x j on
def OL (op : Nat → Int32) : List Nat → Prop
  | [] => True
  | j :: r => op r.length = nI j ∧ OL op r
theorem OL.up {op : Nat → Int32} {l : Nat} {v : Int32} : ∀ {r : List Nat}, OL op r → r.length ≤ l → OL (upd op l v) r
  | [], _, _ => trivial
  | j :: r, h, hl => by
    have hl' : r.length + 1 ≤ l := hl
    exact ⟨by rw [pk_un (by omega)]; exact h.1, OL.up h.2 (by omega)⟩
theorem own_cg {kd kd' : Nat → Nat} {j : Nat} (h : ∀ y, y ≤ j → kd y = kd' y) : own kd j = own kd' j := by
  unfold own
  rw [h j (Nat.le_refl _), ow_cg (fun y hy => h y (by omega))]
theorem ONx.up {kd : Nat → Nat} {x j k : Nat} {on on' : Nat → Int32} (h : ONx kd x j on) (e : on' j = on j) : ONx (va_up kd x k) (x + 1) j on' := by
  obtain ⟨z, z1, z2, z3, z4, z5, z6⟩ := h
  have eo : ∀ w, w ≤ x → ow (va_up kd x k) w = ow kd w := fun w hw => ow_cg (fun y hy => up_n (by omega))
  have ej : own (va_up kd x k) j = own kd j := own_cg (fun y hy => up_n (by omega))
  refine ⟨z, z1, by omega, by rw [e]; exact z3, by rw [up_n (by omega)]; exact z4, by rw [eo z (by omega), ej]; exact z5, fun w w1 w2 w3 => ?_⟩
  rw [up_n (by omega)] at w3
  rw [eo w (by omega), ej]
  exact z6 w w1 w2 w3
/-- the reference's items stand where the parse stands -/
def RMd (P0 : Nat) (vB0 : Nat → Int64) (x : Nat) (kd : Nat → Nat) (sr : Nat → Bool) (S : Nat → SS) (lr : List Nat) (it pcs : Int32) (so pi on op : Nat → Int32) (vB : Nat → Int64) (vS : Nat → Int32) : Prop :=
  it = nI x ∧ pcs = nI (P0 + pn kd x) ∧ (∀ j, j < x → so j = nI (kd j)) ∧ (∀ j, j < x → kd j = 0 → pi j = nI (P0 + pn kd j) ∧ vS (P0 + pn kd j) = (if sr j = true then 1 else 0)) ∧ OL op lr ∧ ON kd x on lr ∧ HBf P0 (pn kd x) vB0 S vB
def RMu (P0 : Nat) (vB0 : Nat → Int64) (x : Nat) (kd : Nat → Nat) (sr : Nat → Bool) (S : Nat → SS) (lr : List Nat) (u : Nat × Bool × SS × Nat) (it pcs : Int32) (so pi on op : Nat → Int32) (vB : Nat → Int64) (vS : Nat → Int32) : Prop :=
  RMd P0 vB0 (x + 1) (va_up kd x u.1) (va_up sr x u.2.1) (if u.1 = 0 then va_up S (pn kd x) u.2.2.1 else S) (if u.1 = 1 then x :: lr else if u.1 = 2 then x :: lr.tail else if u.1 = 3 then lr.tail else lr) it pcs so pi on op vB vS
section RMA
variable {t : Nat → Nat} {n off tl fu : Nat} {vT : Nat → Int32} {P0 : Nat} {vB0 : Nat → Int64}
theorem so_up {x k : Nat} {kd : Nat → Nat} {so : Nat → Int32} {v : Int32} (hv : v = nI k) (h : ∀ j, j < x → so j = nI (kd j)) : ∀ j, j < x + 1 → upd so x v j = nI (va_up kd x k j) := fun j hj => by
  by_cases e : j = x
  · subst e; rw [pk_us, up_s, hv]
  · rw [pk_un e, up_n e]; exact h j (by omega)
theorem pi_up {x k : Nat} {kd : Nat → Nat} {sr : Nat → Bool} {b : Bool} {pi vS : Nat → Int32} {v : Int32} (hk : ¬ k = 0) (h : ∀ j, j < x → kd j = 0 → pi j = nI (P0 + pn kd j) ∧ vS (P0 + pn kd j) = (if sr j = true then 1 else 0)) : ∀ j, j < x + 1 → va_up kd x k j = 0 → upd pi x v j = nI (P0 + pn (va_up kd x k) j) ∧ vS (P0 + pn (va_up kd x k) j) = (if va_up sr x b j = true then 1 else 0) := fun j hj hk0 => by
  have e : j ≠ x := fun e => by rw [e, up_s] at hk0; exact hk hk0
  rw [up_n e] at hk0
  rw [pk_un e, up_n e, pn_cg (kd' := kd) j (fun y hy => up_n (by omega))]
  exact h j (by omega) hk0
theorem uM_ok (hT : TXM t n off tl vT) (hP0 : P0 ≤ 60) (hfu : 200 ≤ fu) (k0 k1 k2 k3 : Int32 → Int32 → Int32 → Int32 → (Nat → Int32) → (Nat → Int32) → (Nat → Int32) → (Nat → Int32) → (Nat → Int64) → (Nat → Int32) → Option (Int32 × Int32 × Int32 × (Nat → Int32) × (Nat → Int32) × (Nat → Int32) × (Nat → Int32) × (Nat → Int64) × (Nat → Int32))) {f a x : Nat} {kd : Nat → Nat} {sr : Nat → Bool} {S : Nat → SS} {lr : List Nat} {it pcs : Int32} {so pi on op : Nat → Int32} {vB : Nat → Int64} {vS : Nat → Int32} (hW : WS n a x kd lr) (ha : a < n) (hR : RMd P0 vB0 x kd sr S lr it pcs so pi on op vB vS) :
    (∀ j, un t n a lr.length (decide (kd (lr.headD 0) = 2)) = .inl j → ∃ l4 it' pcs' so' pi' on' op' vB' vS', f_M_read_L11 vT tl (nI off) (nI n) fu k0 k1 k2 k3 (f + 1) (nI a) (nI lr.length) it pcs so pi on op vB vS = k0 (nI j) l4 it' pcs' so' pi' on' op' vB' vS' ∨ f_M_read_L11 vT tl (nI off) (nI n) fu k0 k1 k2 k3 (f + 1) (nI a) (nI lr.length) it pcs so pi on op vB vS = k1 (-1 - nI j) l4 it' pcs' so' pi' on' op' vB' vS' ∨ f_M_read_L11 vT tl (nI off) (nI n) fu k0 k1 k2 k3 (f + 1) (nI a) (nI lr.length) it pcs so pi on op vB vS = k2 (nI j) l4 it' pcs' so' pi' on' op' vB' vS') ∧
    ∀ u, un t n a lr.length (decide (kd (lr.headD 0) = 2)) = .inr u → ∃ it' pcs' so' pi' on' op' vB' vS', f_M_read_L11 vT tl (nI off) (nI n) fu k0 k1 k2 k3 (f + 1) (nI a) (nI lr.length) it pcs so pi on op vB vS = f_M_read_L11 vT tl (nI off) (nI n) fu k0 k1 k2 k3 f (nI u.2.2.2) (nI (if u.1 = 1 then x :: lr else if u.1 = 2 then x :: lr.tail else if u.1 = 3 then lr.tail else lr).length) it' pcs' so' pi' on' op' vB' vS' ∧ RMu P0 vB0 x kd sr S lr u it' pcs' so' pi' on' op' vB' vS' := by
  have hn := hT.1
  obtain ⟨hT1, hT2, hT3, hT4⟩ := hT
  have hT : TXM t n off tl vT := ⟨hT1, hT2, hT3, hT4⟩
  obtain ⟨ea, l1, l2⟩ := hT4 a ha
  obtain ⟨w1, w2, w3, w4, w5, w6, w7⟩ := hW
  obtain ⟨r1, r2, r3, r4, r5, r6, r7⟩ := hR
  subst r1 r2
  have hx : x < 42 := by omega
  have hq : P0 + pn kd x < 100 := by have := pn_le (kd := kd) x; omega
  have lit : ∀ l : Nat, l < 1000 → ¬ t a = l → ¬ nI (t a) = nI l := fun l hl h z => h ((nI_eq (by omega) (by omega)).mp z)
  rw [f_M_read_L11_s, ifF (nI_ge ha (by omega)), nI_add, ifT (inB_nI (by omega) (by omega)), nI_clamp (by omega), ea]
  -- a piece
  have piece : ¬ t a = 123 → ¬ t a = 125 → ¬ t a = 93 → ¬ (t a = 44 ∧ 0 < lr.length) →
      (∀ j, un t n a lr.length (decide (kd (lr.headD 0) = 2)) = .inl j → ∃ l4 it' pcs' so' pi' on' op' vB' vS', f_M_read_J206 vT tl (nI off) (nI n) fu k0 k1 (fun l5_11 l4_11 v_items_11 v_pieces_11 v_sort_11 v_piece_11 v_onward_11 v_open_11 v_bytes_11 v_star_11 => f_M_read_L11 vT tl (nI off) (nI n) fu k0 k1 k2 k3 f l5_11 l4_11 v_items_11 v_pieces_11 v_sort_11 v_piece_11 v_onward_11 v_open_11 v_bytes_11 v_star_11) (nI (t a)) (nI a) (nI lr.length) (nI x) (nI (P0 + pn kd x)) so pi on op vB vS = k0 (nI j) l4 it' pcs' so' pi' on' op' vB' vS' ∨ f_M_read_J206 vT tl (nI off) (nI n) fu k0 k1 (fun l5_11 l4_11 v_items_11 v_pieces_11 v_sort_11 v_piece_11 v_onward_11 v_open_11 v_bytes_11 v_star_11 => f_M_read_L11 vT tl (nI off) (nI n) fu k0 k1 k2 k3 f l5_11 l4_11 v_items_11 v_pieces_11 v_sort_11 v_piece_11 v_onward_11 v_open_11 v_bytes_11 v_star_11) (nI (t a)) (nI a) (nI lr.length) (nI x) (nI (P0 + pn kd x)) so pi on op vB vS = k1 (-1 - nI j) l4 it' pcs' so' pi' on' op' vB' vS' ∨ f_M_read_J206 vT tl (nI off) (nI n) fu k0 k1 (fun l5_11 l4_11 v_items_11 v_pieces_11 v_sort_11 v_piece_11 v_onward_11 v_open_11 v_bytes_11 v_star_11 => f_M_read_L11 vT tl (nI off) (nI n) fu k0 k1 k2 k3 f l5_11 l4_11 v_items_11 v_pieces_11 v_sort_11 v_piece_11 v_onward_11 v_open_11 v_bytes_11 v_star_11) (nI (t a)) (nI a) (nI lr.length) (nI x) (nI (P0 + pn kd x)) so pi on op vB vS = k2 (nI j) l4 it' pcs' so' pi' on' op' vB' vS') ∧
      ∀ u, un t n a lr.length (decide (kd (lr.headD 0) = 2)) = .inr u → ∃ it' pcs' so' pi' on' op' vB' vS', f_M_read_J206 vT tl (nI off) (nI n) fu k0 k1 (fun l5_11 l4_11 v_items_11 v_pieces_11 v_sort_11 v_piece_11 v_onward_11 v_open_11 v_bytes_11 v_star_11 => f_M_read_L11 vT tl (nI off) (nI n) fu k0 k1 k2 k3 f l5_11 l4_11 v_items_11 v_pieces_11 v_sort_11 v_piece_11 v_onward_11 v_open_11 v_bytes_11 v_star_11) (nI (t a)) (nI a) (nI lr.length) (nI x) (nI (P0 + pn kd x)) so pi on op vB vS = f_M_read_L11 vT tl (nI off) (nI n) fu k0 k1 k2 k3 f (nI u.2.2.2) (nI (if u.1 = 1 then x :: lr else if u.1 = 2 then x :: lr.tail else if u.1 = 3 then lr.tail else lr).length) it' pcs' so' pi' on' op' vB' vS' ∧ RMu P0 vB0 x kd sr S lr u it' pcs' so' pi' on' op' vB' vS' := fun h1 h2 h3 h4 => by
    obtain ⟨m1, m2⟩ := rpM_ok (so := so) (pi := pi) (on := on) (vS := vS) hT hq hfu hx ha r7
    have n123 : ¬ nI (t a) = 123 := lit 123 (by omega) h1
    have n125 : ¬ nI (t a) = 125 := lit 125 (by omega) h2
    have n93 : ¬ nI (t a) = 93 := lit 93 (by omega) h3
    rw [un_p h1 h2 h3 h4]
    unfold f_M_read_J206
    rw [ifF n123, ifF n125, ifF n93]
    refine ⟨fun j e => ?_, fun u e => ?_⟩
    · obtain ⟨i', p', so', pi', on', vB', vS', g1, g2⟩ := m1 j e
      have hneg : ¬ (0 : Int32) ≤ -1 - nI j := by
        have : ∀ j, j ≤ 40 → ¬ (0 : Int32) ≤ -1 - nI j := by decide +kernel
        exact this j (by omega)
      rw [g1, ob]
      dsimp only
      rw [ifF hneg]
      exact ⟨_, _, _, _, _, _, _, _, _, Or.inr (Or.inl rfl)⟩
    · obtain ⟨vB', vS', g1, g2, g3, g4, g5⟩ := m2 u e
      obtain ⟨a1, a2, -⟩ := (un_ok (t := t) (dp := lr.length) (rw_ := decide (kd (lr.headD 0) = 2)) ha).2 u (by rw [un_p h1 h2 h3 h4]; exact e)
      obtain ⟨uk, ub, us, ua⟩ := u
      have g2' : uk = 0 := g2
      subst g2'
      have a2' : ua ≤ n := a2
      rw [g1, ob]
      dsimp only
      rw [ifT (nI_pos' (by omega))]
      refine ⟨_, _, _, _, _, _, _, _, rfl, ?_⟩
      show RMd P0 vB0 (x + 1) (va_up kd x 0) (va_up sr x ub) (va_up S (pn kd x) us) lr _ _ _ _ _ _ _ _
      have eP : pn (va_up kd x 0) x = pn kd x := pn_cg x (fun y hy => up_n (by omega))
      have eP1 : pn (va_up kd x 0) (x + 1) = pn kd x + 1 := by rw [pn, up_s, if_pos rfl, eP]
      refine ⟨rfl, by rw [eP1]; rfl, so_up rfl r3, fun j hj hk => ?_, r5, fun j hj hk => ?_, by rw [eP1]; exact g3.fin⟩
      · by_cases e2 : j = x
        · subst e2
          rw [eP, pk_us, up_s]
          exact ⟨rfl, g4⟩
        · rw [up_n e2] at hk
          have hlt : pn kd j < pn kd x := pn_lt (by omega) hk
          rw [pk_un e2, up_n e2, pn_cg (kd' := kd) j (fun y hy => up_n (by omega)), g5 _ (by omega)]
          exact r4 j (by omega) hk
      · have e2 : j ≠ x := fun e2 => by rw [e2, up_s] at hk; omega
        rw [up_n e2] at hk
        rcases r6 j (by omega) hk with ⟨o1, o2⟩ | o
        · exact Or.inl ⟨o1, by rw [pk_un e2]; exact o2⟩
        · exact Or.inr (o.up (pk_un e2))
  by_cases q123 : t a = 123
  · rw [ifT (show nI (t a) = 123 by rw [q123]; rfl)]
    by_cases h : lr.length < 2
    · have eu : un t n a lr.length (decide (kd (lr.headD 0) = 2)) = .inr (1, false, nosl, a + 1) := by
        unfold un
        rw [if_pos q123, if_pos h]
      have q2 : ¬ (2 : Int32) ≤ nI lr.length := nI_ge (b := 2) h (by decide)
      rw [ifF q2, ifT (inB_nI (by omega) (by omega)), item_ok hx, ob, eu]
      dsimp only
      rw [nI_clamp (by omega), nI_1, nI_1]
      refine ⟨fun j e => (by cases e), fun u e => ?_⟩
      cases e
      refine ⟨_, _, _, _, _, _, _, _, rfl, ?_⟩
      show RMd P0 vB0 (x + 1) (va_up kd x 1) (va_up sr x false) S (x :: lr) _ _ _ _ _ _ _ _
      refine ⟨rfl, by rw [pn_k (by decide)], so_up rfl r3, pi_up (by decide) r4, ⟨pk_us, r5.up (Nat.le_refl _)⟩, fun j hj hk => ?_, by rw [pn_k (by decide)]; exact r7⟩
      by_cases e2 : j = x
      · subst e2; exact Or.inl ⟨List.mem_cons_self, pk_us⟩
      · rw [up_n e2] at hk
        rcases r6 j (by omega) hk with ⟨o1, o2⟩ | o
        · exact Or.inl ⟨List.mem_cons_of_mem _ o1, by rw [pk_un e2]; exact o2⟩
        · exact Or.inr (o.up (pk_un e2))
    · have eu : un t n a lr.length (decide (kd (lr.headD 0) = 2)) = .inl a := by
        unfold un
        rw [if_pos q123, if_neg h]
      have q2 : (2 : Int32) ≤ nI lr.length := nI_le (a := 2) (by omega) (by omega)
      have q0' : ¬ nI lr.length ≤ 0 := nI_ge (a := 0) (by omega) (by omega)
      have n44 : ¬ nI (t a) = 44 := lit 44 (by omega) (by omega)
      have n125 : ¬ nI (t a) = 125 := lit 125 (by omega) (by omega)
      rw [ifT q2, eu]
      unfold f_M_read_J70 f_M_read_J206
      rw [ifF q0', ifF n44, ifF n125, ifT (show nI (t a) = 123 by rw [q123]; rfl)]
      refine ⟨fun j e => ?_, fun u e => (by cases e)⟩
      cases e
      exact ⟨_, _, _, _, _, _, _, _, _, Or.inl rfl⟩
  · have n123 : ¬ nI (t a) = 123 := lit 123 (by omega) q123
    rw [ifF n123]
    unfold f_M_read_J70
    cases hl : lr with
    | nil =>
      rw [hl] at piece
      rw [ifT (show nI ([] : List Nat).length ≤ 0 by decide)]
      by_cases q125 : t a = 125
      · have eu : un t n a ([] : List Nat).length (decide (kd (([] : List Nat).headD 0) = 2)) = .inl a := by
          unfold un
          rw [if_neg q123, if_pos q125, if_neg (fun z => by have := z.1; simp at this)]
        rw [eu]
        unfold f_M_read_J206
        rw [ifF n123, ifT (show nI (t a) = 125 by rw [q125]; rfl)]
        refine ⟨fun j e => ?_, fun u e => (by cases e)⟩
        cases e
        exact ⟨_, _, _, _, _, _, _, _, _, Or.inl rfl⟩
      · by_cases q93 : t a = 93
        · have eu : un t n a ([] : List Nat).length (decide (kd (([] : List Nat).headD 0) = 2)) = .inl a := by
            unfold un
            rw [if_neg q123, if_neg q125, if_pos q93]
          have n125 : ¬ nI (t a) = 125 := lit 125 (by omega) q125
          rw [eu]
          unfold f_M_read_J206
          rw [ifF n123, ifF n125, ifT (show nI (t a) = 93 by rw [q93]; rfl)]
          refine ⟨fun j e => ?_, fun u e => (by cases e)⟩
          cases e
          exact ⟨_, _, _, _, _, _, _, _, _, Or.inl rfl⟩
        · exact piece q123 q125 q93 (fun z => by have := z.2; simp at this)
    | cons j r =>
      rw [hl] at piece r5 r6 w5 w6
      have hr : r.length ≤ 1 := by simpa using w6
      have q0' : ¬ nI (j :: r).length ≤ 0 := nI_ge (a := 0) (by simp) (by simp; omega)
      rw [ifF q0']
      have e1 : nI (j :: r).length - 1 = nI r.length := by show nI (r.length + 1) - 1 = nI r.length; exact pk_sub (b := 1) (by omega)
      have hin : inB (nI r.length) 4 = true := inB_nI (by omega) (by omega)
      obtain ⟨p1, p2⟩ := r5
      cases hs : stk kd x with
      | nil => rw [hs] at w5; exact w5.elim
      | cons o qq =>
        rw [hs] at w5
        obtain ⟨s1, s2, s3, s4, s5⟩ := w5
        have hj42 : inB (nI j) 42 = true := inB_nI (by omega) (by omega)
        have hox : ow kd x = o := ow_cons hs
        have hown : own kd j = o := by
          have ho := stk_lt x o (by rw [hs]; exact List.mem_cons_self)
          unfold own
          rcases s2 with s2 | s2
          · subst s2; rw [if_pos ho.2]
          · rw [if_neg (by omega)]; exact s2.2
        -- the chain after a row or the close at x
        have chain : ∀ (k : Nat) (lr' : List Nat) (on' : Nat → Int32), (k = 2 ∨ k = 3) → (∀ i, i ∈ r → i ∈ lr') → (∀ i, ¬ i = j → ¬ i = x → on' i = on i) → on' j = nI x → (k = 2 → x ∈ lr' ∧ on' x = -1) → ON (va_up kd x k) (x + 1) on' lr' := fun k lr' on' hk hsub hon hj hx2 i hi hki => by
          by_cases ei : i = x
          · subst ei
            rw [up_s] at hki
            have : k = 2 := by omega
            exact Or.inl (hx2 this)
          · rw [up_n ei] at hki
            by_cases ej : i = j
            · subst ej
              refine Or.inr ⟨x, s1, by omega, hj, by rw [up_s]; exact hk, ?_, fun w w1 w2 w3 => ?_⟩
              · rw [ow_cg (kd' := kd) (fun y hy => up_n (by omega)), own_cg (kd' := kd) (fun y hy => up_n (by omega)), hox, hown]
              · rw [up_n (by omega)] at w3
                rw [ow_cg (kd' := kd) (fun y hy => up_n (by omega)), own_cg (kd' := kd) (fun y hy => up_n (by omega)), hown]
                exact s4 w w1 w2 w3
            · rcases r6 i (by omega) hki with ⟨o1, o2⟩ | o1
              · rcases List.mem_cons.mp o1 with z | z
                · exact absurd z ej
                · exact Or.inl ⟨hsub i z, by rw [hon i ej ei]; exact o2⟩
              · exact Or.inr (o1.up (hon i ej ei))
        by_cases q44 : t a = 44
        · have eq44 : nI (t a) = 44 := by rw [q44]; rfl
          have n125 : ¬ nI (t a) = 125 := lit 125 (by omega) (by omega)
          have eu : un t n a (j :: r).length (decide (kd ((j :: r).headD 0) = 2)) = .inr (2, false, nosl, a + 1) := by
            unfold un
            rw [if_neg (by omega), if_neg (by omega), if_neg (by omega), if_pos ⟨q44, by simp⟩]
          rw [ifT eq44, eu]
          unfold f_M_read_J89 f_M_read_J114 f_M_read_J119 f_M_read_J175
          rw [ifT eq44, ifF (by decide), e1, ifT hin, nI_clamp (show r.length < 2 ^ 31 by omega), p1, ifT hj42, ifT hin, ifT eq44, item_ok hx, ob]
          dsimp only
          rw [ifF n125, nI_clamp (show j < 2 ^ 31 by omega), nI_1]
          refine ⟨fun j e => (by cases e), fun u e => ?_⟩
          cases e
          refine ⟨_, _, _, _, _, _, _, _, rfl, ?_⟩
          show RMd P0 vB0 (x + 1) (va_up kd x 2) (va_up sr x false) S (x :: r) _ _ _ _ _ _ _ _
          refine ⟨rfl, by rw [pn_k (by decide)], so_up rfl r3, pi_up (by decide) r4, ⟨pk_us, p2.up (Nat.le_refl _)⟩, ?_, by rw [pn_k (by decide)]; exact r7⟩
          exact chain 2 _ _ (Or.inl rfl) (fun i hi => List.mem_cons_of_mem _ hi) (fun i h1 h2 => by rw [pk_un h2, pk_un h1]) (by rw [pk_un (by omega), pk_us]) (fun _ => ⟨List.mem_cons_self, pk_us⟩)
        · have n44 : ¬ nI (t a) = 44 := lit 44 (by omega) q44
          rw [ifF n44]
          by_cases q125 : t a = 125
          · have eq125 : nI (t a) = 125 := by rw [q125]; rfl
            rw [ifT eq125]
            have un125 : un t n a (j :: r).length (decide (kd ((j :: r).headD 0) = 2)) = if 0 < (j :: r).length ∧ decide (kd ((j :: r).headD 0) = 2) = true then .inr (3, false, nosl, a + 1) else .inl a := by
              unfold un
              rw [if_neg (by omega), if_pos q125]
            unfold f_M_read_J89
            rw [ifF n44, e1, ifT hin, nI_clamp (show r.length < 2 ^ 31 by omega), p1, ifT hj42, nI_clamp (show j < 2 ^ 31 by omega), r3 j s1]
            by_cases hk : kd j = 2
            · have eu : un t n a (j :: r).length (decide (kd ((j :: r).headD 0) = 2)) = .inr (3, false, nosl, a + 1) := by
                rw [un125, if_pos ⟨by simp, decide_eq_true hk⟩]
              rw [ifT (show nI (kd j) = 2 by rw [hk]; rfl), eu]
              unfold f_M_read_J114 f_M_read_J119 f_M_read_J175
              rw [ifF (by decide), e1, ifT hin, nI_clamp (show r.length < 2 ^ 31 by omega), p1, ifT hj42, ifT hin, ifF n44, item_ok hx, ob]
              dsimp only
              rw [ifT eq125, nI_clamp (show j < 2 ^ 31 by omega), nI_1]
              refine ⟨fun j e => (by cases e), fun u e => ?_⟩
              cases e
              refine ⟨_, _, _, _, _, _, _, _, rfl, ?_⟩
              show RMd P0 vB0 (x + 1) (va_up kd x 3) (va_up sr x false) S r _ _ _ _ _ _ _ _
              refine ⟨rfl, by rw [pn_k (by decide)], so_up rfl r3, pi_up (by decide) r4, p2.up (Nat.le_refl _), ?_, by rw [pn_k (by decide)]; exact r7⟩
              exact chain 3 _ _ (Or.inr rfl) (fun i hi => hi) (fun i h1 h2 => by rw [pk_un h2, pk_un h1]) (by rw [pk_un (by omega), pk_us]) (fun z => absurd z (by decide))
            · have eu : un t n a (j :: r).length (decide (kd ((j :: r).headD 0) = 2)) = .inl a := by
                rw [un125, if_neg (fun z => hk (of_decide_eq_true z.2))]
              have hk4 := w4 j s1
              have nk : ¬ nI (kd j) = 2 := fun z => hk ((nI_eq (b := 2) (by omega) (by omega)).mp z)
              rw [ifF nk, eu]
              unfold f_M_read_J119
              rw [ifT (show (0 : Int32) = 0 from rfl)]
              refine ⟨fun j e => ?_, fun u e => (by cases e)⟩
              cases e
              exact ⟨_, _, _, _, _, _, _, _, _, Or.inr (Or.inr rfl)⟩
          · have n125 : ¬ nI (t a) = 125 := lit 125 (by omega) q125
            rw [ifF n125]
            by_cases q93 : t a = 93
            · have eu : un t n a (j :: r).length (decide (kd ((j :: r).headD 0) = 2)) = .inl a := by
                unfold un
                rw [if_neg q123, if_neg q125, if_pos q93]
              rw [eu]
              unfold f_M_read_J206
              rw [ifF n123, ifF n125, ifT (show nI (t a) = 93 by rw [q93]; rfl)]
              refine ⟨fun j e => ?_, fun u e => (by cases e)⟩
              cases e
              exact ⟨_, _, _, _, _, _, _, _, _, Or.inl rfl⟩
            · exact piece q123 q125 q93 (fun z => q44 z.1)
end RMA
