/-! the rules: promises 4, 5, 6. G says that a glob's data are what its text gives -/
abbrev GT_ : Type := (Nat → Int32) → Nat → Nat → (Nat → Int64) → (Nat → Int64) → Int64 → Prop
def RuleOK (G : GT_) (al pe pc : Int32) (bh rd : Nat → Int64) (en : Int64) (gl : Nat → Int32) (len al' pe' many : Int32) (off cnt : Nat) : Prop :=
  ∃ (t : Nat → Int32) (n : Nat), n ≤ 40 ∧ len = nI n ∧ (∀ i, i < n → gl (off + i) = t i ∧ okc (t i)) ∧ al = al' ∧ (al' = 0 ∨ al' = 1) ∧ pe = pe' ∧ (∃ q, 1 ≤ q ∧ q ≤ 7 ∧ pe' = nI q) ∧ pc = nI cnt ∧ many = nI cnt ∧ G t n cnt bh rd en
def sumn (cn : Nat → Nat) : Nat → Nat
  | 0 => 0
  | r + 1 => sumn cn r + cn r
def InvR (G : GT_) (qq_ruleCount : Int32) (qq_pi : Nat → Nat) (ba_al ba_pe ba_pc : Nat → Int32) (ba_en : Nat → Int64) (ba_bh ba_rd : Nat → Nat → Int64) (v_rules : Int32) (v_glob v_length v_allows v_permissions v_many : Nat → Int32) : Prop :=
  ∃ (R : Nat) (cn : Nat → Nat), R ≤ 6 ∧ qq_ruleCount = nI R ∧ v_rules = nI R ∧ (∀ j, j < 6 → qq_pi j < 6) ∧ (∀ i j, i < 6 → j < 6 → qq_pi i = qq_pi j → i = j) ∧ (∀ r, r < R → RuleOK G (ba_al (qq_pi r)) (ba_pe (qq_pi r)) (ba_pc (qq_pi r)) (ba_bh (qq_pi r)) (ba_rd (qq_pi r)) (ba_en (qq_pi r)) v_glob (v_length r) (v_allows r) (v_permissions r) (v_many r) (40 * r) (cn r)) ∧ sumn cn R ≤ 60
section RUL
variable {G : GT_} {qq_ruleCount : Int32} {qq_pi : Nat → Nat} {ba_al ba_pe ba_pc : Nat → Int32} {ba_en : Nat → Int64} {ba_bh ba_rd : Nat → Nat → Int64} {v_rules : Int32} {v_glob v_length v_allows v_permissions v_many : Nat → Int32}
theorem ruleAt_in {R r : Nat} (hR : R ≤ 6) (hr : r < R) : f_G_ruleAt (nI r) (nI R) qq_pi = some (some (qq_pi r)) := by
  unfold f_G_ruleAt f_G_slotAt
  have q : ¬ (6 : Int32) ≤ nI r := nI_ge (b := 6) (by omega) (by decide)
  rw [ifF (nI_ge hr (by omega)), ifF (nI_pos (by omega)), ifF q, ifT (inB_nI (by omega) (by omega)), nI_clamp (by omega)]
  rfl
theorem ruleAt_out {R : Nat} (hR : R ≤ 6) {p : Int32} (h : ¬ ∃ r, r < R ∧ p = nI r) : f_G_ruleAt p (nI R) qq_pi = some none := by
  unfold f_G_ruleAt f_G_slotAt
  by_cases q1 : nI R ≤ p
  · rw [ifT q1]
  · rw [ifF q1]
    rcases pk_ix p (n := R) (by omega) with q | q | q
    · rw [ifT q]; rfl
    · exact absurd q q1
    · exact absurd q h
theorem rules_ok (h : InvR G qq_ruleCount qq_pi ba_al ba_pe ba_pc ba_en ba_bh ba_rd v_rules v_glob v_length v_allows v_permissions v_many) : ∃ r, f_G_rules qq_ruleCount = some r ∧ f_M_rules v_rules = some r := by
  obtain ⟨R, cn, hR, rfl, rfl, -⟩ := h
  exact ⟨nI R, rfl, rfl⟩
theorem pieces_ok (h : InvR G qq_ruleCount qq_pi ba_al ba_pe ba_pc ba_en ba_bh ba_rd v_rules v_glob v_length v_allows v_permissions v_many) (p : Int32) : ∃ r, f_G_pieces p qq_ruleCount qq_pi ba_pc = some r ∧ f_M_pieces p v_rules v_many = some r := by
  obtain ⟨R, cn, hR, rfl, rfl, hp6, -, hru, -⟩ := h
  by_cases hp : ∃ r, r < R ∧ p = nI r
  · obtain ⟨r, hr, rfl⟩ := hp
    obtain ⟨t, n, -, -, -, -, -, -, -, e1, e2, -⟩ := hru r hr
    refine ⟨nI (cn r), ?_, ?_⟩
    · unfold f_G_pieces
      rw [ruleAt_in hR hr]
      show (if qq_pi r < 6 then (if qq_pi r < 6 then some (ba_pc (qq_pi r)) else none) else none) = _
      rw [ifT (hp6 r (by omega)), ifT (hp6 r (by omega)), e1]
    · unfold f_M_pieces
      rw [(in_S (by omega) _).1 ⟨r, hr, rfl⟩]
      show (if (1 : Int32) = 0 then some (-1 : Int32) else if inB (nI r) 6 = true then some (v_many (nI r).toNatClampNeg) else none) = _
      rw [ifF (by decide), ifT (inB_nI (by omega) (by omega)), nI_clamp (by omega), e2]
  · refine ⟨-1, ?_, ?_⟩
    · unfold f_G_pieces
      rw [ruleAt_out hR hp]; rfl
    · unfold f_M_pieces
      rw [(in_S (by omega) _).2 hp]; rfl
theorem up_s {α : Type} {f : Nat → α} {k : Nat} {v : α} : va_up f k v k = v := by simp [va_up]
theorem up_n {α : Type} {f : Nat → α} {k j : Nat} {v : α} (h : j ≠ k) : va_up f k v j = f j := by simp [va_up, h]
theorem dropC {R x : Nat} (hR : R ≤ 6) (hx : x < 6) (kk : Int32 → (Nat → Nat) → Option (Int32 × Int32 × (Nat → Nat) × Int32)) : ∀ (d i f : Nat) (pi : Nat → Nat), i + d + 1 = R → d < f → (∀ j, j < 6 → pi j < 6) → pi i = x →
    ∃ pi' : Nat → Nat, f_G_drop_L14 (nI R) x kk f (nI i) pi = kk (nI (R - 1)) pi' ∧ (∀ j, j < i ∨ R ≤ j → pi' j = pi j) ∧ (∀ j, i ≤ j → j < R - 1 → pi' j = pi (j + 1)) ∧ pi' (R - 1) = x
  | 0, i, f, pi, hi, hf, h6, hp => by
    obtain ⟨f, rfl⟩ : ∃ g, f = g + 1 := ⟨f - 1, by omega⟩
    refine ⟨pi, ?_, fun _ _ => rfl, fun j a b => by omega, by rw [show R - 1 = i by omega]; exact hp⟩
    rw [f_G_drop_L14_s, nI_1, ifT (nI_le (by omega) (by omega)), show R - 1 = i by omega]
  | d + 1, i, f, pi, hi, hf, h6, hp => by
    obtain ⟨f, rfl⟩ : ∃ g, f = g + 1 := ⟨f - 1, by omega⟩
    have q : ¬ (6 : Int32) ≤ nI (i + 1) := nI_ge (b := 6) (by omega) (by decide)
    obtain ⟨pi', e, a, b, c⟩ := dropC hR hx kk d (i + 1) f (va_up (va_up pi i (pi (i + 1))) (i + 1) x) (by omega) (by omega) (fun j hj => by
      by_cases z1 : j = i + 1
      · subst z1; rw [up_s]; exact hx
      · rw [up_n z1]
        by_cases z : j = i
        · subst z; rw [up_s]; exact h6 _ (by omega)
        · rw [up_n z]; exact h6 j hj) up_s
    refine ⟨pi', ?_, fun j hj => ?_, fun j h1 h2 => ?_, c⟩
    · rw [f_G_drop_L14_s, nI_1, ifF (nI_ge (by omega) (by omega)), ifF q, ifT (inB_nI (by omega) (by omega)), ifT (inB_nI (by omega) (by omega)), nI_clamp (by omega), nI_clamp (by omega), ifT (h6 _ (by omega)), ifT (inB_nI (by omega) (by omega)), ifT hx]
      exact e
    · rw [a j (by omega), up_n (by omega), up_n (by omega)]
    · by_cases z : j = i
      · subst z; rw [a j (by omega), up_n (by omega), up_s]
      · rw [b j (by omega) h2, up_n (by omega), up_n (by omega)]
theorem dropM_in {r : Nat} (hr : r + 1 < 6) (kk : Int32 → (Nat → Int32) → Option (Int32 × Int32 × Int32 × (Nat → Int32) × (Nat → Int32) × (Nat → Int32) × (Nat → Int32) × (Nat → Int32))) : ∀ (d i f : Nat) (gl : Nat → Int32), i + d = 40 → d < f →
    ∃ gl' : Nat → Int32, f_M_drop_L38 (nI r) kk f (nI i) gl = kk (nI 40) gl' ∧ (∀ p, i ≤ p → p < 40 → gl' (40 * r + p) = gl (40 * (r + 1) + p)) ∧ (∀ x, x < 40 * r + i ∨ 40 * r + 40 ≤ x → gl' x = gl x)
  | 0, i, f, gl, hi, hf => by
    obtain ⟨f, rfl⟩ : ∃ g, f = g + 1 := ⟨f - 1, by omega⟩
    have : i = 40 := by omega
    subst this
    refine ⟨gl, ?_, fun p a b => by omega, fun _ _ => rfl⟩
    rw [f_M_drop_L38_s, ifT (by decide)]
  | d + 1, i, f, gl, hi, hf => by
    obtain ⟨f, rfl⟩ : ∃ g, f = g + 1 := ⟨f - 1, by omega⟩
    have q : ¬ (40 : Int32) ≤ nI i := nI_ge (b := 40) (by omega) (by decide)
    have e1 : (40 : Int32) * nI r + 40 + nI i = nI (40 * (r + 1) + i) := by
      rw [show (40 : Int32) = nI 40 from rfl, pk_mul, nI_add, nI_add, show 40 * r + 40 + i = 40 * (r + 1) + i by omega]
    have e2 : (40 : Int32) * nI r + nI i = nI (40 * r + i) := by
      rw [show (40 : Int32) = nI 40 from rfl, pk_mul, nI_add]
    obtain ⟨gl', e, a, b⟩ := dropM_in hr kk d (i + 1) f (upd gl (40 * r + i) (gl (40 * (r + 1) + i))) (by omega) (by omega)
    refine ⟨gl', ?_, fun p h1 h2 => ?_, fun x hx => ?_⟩
    · rw [f_M_drop_L38_s, ifF q, e1, e2, ifT (inB_nI (by omega) (by omega)), ifT (inB_nI (by omega) (by omega)), nI_clamp (by omega), nI_clamp (by omega), nI_1]
      exact e
    · by_cases z : p = i
      · subst z; rw [b _ (by omega), pk_us]
      · rw [a p (by omega) h2, pk_un (by omega)]
    · rw [b x (by omega), pk_un (by omega)]
theorem nar01 {x : Int32} (h : x = 0 ∨ x = 1) : vp_nar .boolean x = x := by rcases h with rfl | rfl <;> rfl
theorem dropM {R : Nat} (hR : R ≤ 6) {fu : Nat} (hfu : 50 ≤ fu) (kk : Int32 → (Nat → Int32) → (Nat → Int32) → (Nat → Int32) → (Nat → Int32) → (Nat → Int32) → Option (Int32 × Int32 × Int32 × (Nat → Int32) × (Nat → Int32) × (Nat → Int32) × (Nat → Int32) × (Nat → Int32))) : ∀ (d i f : Nat) (gl le al pe ma : Nat → Int32), i + d + 1 = R → d < f → (∀ j, j < R → al j = 0 ∨ al j = 1) →
    ∃ gl' le' al' pe' ma' : Nat → Int32, f_M_drop_L28 (nI R) fu kk f (nI i) gl le al pe ma = kk (nI (R - 1)) gl' le' al' pe' ma' ∧ (∀ j, j < i → (∀ p, p < 40 → gl' (40 * j + p) = gl (40 * j + p)) ∧ le' j = le j ∧ al' j = al j ∧ pe' j = pe j ∧ ma' j = ma j) ∧ (∀ j, i ≤ j → j < R - 1 → (∀ p, p < 40 → gl' (40 * j + p) = gl (40 * (j + 1) + p)) ∧ le' j = le (j + 1) ∧ al' j = al (j + 1) ∧ pe' j = pe (j + 1) ∧ ma' j = ma (j + 1))
  | 0, i, f, gl, le, al, pe, ma, hi, hf, h01 => by
    obtain ⟨f, rfl⟩ : ∃ g, f = g + 1 := ⟨f - 1, by omega⟩
    have e : nI R - 1 = nI (R - 1) := pk_sub (b := 1) (by omega)
    refine ⟨gl, le, al, pe, ma, ?_, fun j _ => ⟨fun _ _ => rfl, rfl, rfl, rfl, rfl⟩, fun j a b => by omega⟩
    rw [f_M_drop_L28_s, e, ifT (nI_le (by omega) (by omega)), show R - 1 = i by omega]
  | d + 1, i, f, gl, le, al, pe, ma, hi, hf, h01 => by
    obtain ⟨f, rfl⟩ : ∃ g, f = g + 1 := ⟨f - 1, by omega⟩
    have e : nI R - 1 = nI (R - 1) := pk_sub (b := 1) (by omega)
    have b1 : inB (nI i + 1) 6 = true := by rw [nI_1]; exact inB_nI (by omega) (by omega)
    have b2 : inB (nI i) 6 = true := inB_nI (by omega) (by omega)
    obtain ⟨gl1, g1, g2, g3⟩ := dropM_in (r := i) (by omega) (fun l3_38 v_glob_38 => (if inB (nI i + (1 : Int32)) 6 = true then (if inB (nI i) 6 = true then (if inB (nI i + (1 : Int32)) 6 = true then (if inB (nI i) 6 = true then (if inB (nI i + (1 : Int32)) 6 = true then (if inB (nI i) 6 = true then (if inB (nI i + (1 : Int32)) 6 = true then (if inB (nI i) 6 = true then (f_M_drop_L28 (nI R) fu kk f (nI i + 1) v_glob_38 (upd le (nI i).toNatClampNeg (le (nI i + (1 : Int32)).toNatClampNeg)) (upd al (nI i).toNatClampNeg (vp_nar .boolean (al (nI i + (1 : Int32)).toNatClampNeg))) (upd pe (nI i).toNatClampNeg (pe (nI i + (1 : Int32)).toNatClampNeg)) (upd ma (nI i).toNatClampNeg (ma (nI i + (1 : Int32)).toNatClampNeg))) else none) else none) else none) else none) else none) else none) else none) else none)) 40 0 fu gl (by omega) (by omega)
    obtain ⟨gl', le', al', pe', ma', e0, a, b⟩ := dropM hR hfu kk d (i + 1) f gl1 (upd le i (le (i + 1))) (upd al i (al (i + 1))) (upd pe i (pe (i + 1))) (upd ma i (ma (i + 1))) (by omega) (by omega) (fun j hj => by
      by_cases z : j = i
      · subst z; rw [pk_us]; exact h01 _ (by omega)
      · rw [pk_un z]; exact h01 j hj)
    refine ⟨gl', le', al', pe', ma', ?_, fun j hj => ?_, fun j h1 h2 => ?_⟩
    · rw [f_M_drop_L28_s, e, ifF (nI_ge (by omega) (by omega))]
      refine Eq.trans g1 ?_
      rw [ifT b1, ifT b2, ifT b1, ifT b2, ifT b1, ifT b2, ifT b1, ifT b2, nI_1, nI_clamp (by omega), nI_clamp (by omega), nar01 (h01 _ (by omega))]
      exact e0
    · obtain ⟨c1, c2, c3, c4, c5⟩ := a j (by omega)
      refine ⟨fun p hp => ?_, ?_, ?_, ?_, ?_⟩
      · rw [c1 p hp, g3 _ (by omega)]
      · rw [c2, pk_un (by omega)]
      · rw [c3, pk_un (by omega)]
      · rw [c4, pk_un (by omega)]
      · rw [c5, pk_un (by omega)]
    · by_cases z : j = i
      · subst z
        obtain ⟨c1, c2, c3, c4, c5⟩ := a j (by omega)
        refine ⟨fun p hp => ?_, ?_, ?_, ?_, ?_⟩
        · rw [c1 p hp, g2 p (by omega) hp]
        · rw [c2, pk_us]
        · rw [c3, pk_us]
        · rw [c4, pk_us]
        · rw [c5, pk_us]
      · obtain ⟨c1, c2, c3, c4, c5⟩ := b j (by omega) h2
        refine ⟨fun p hp => ?_, ?_, ?_, ?_, ?_⟩
        · rw [c1 p hp, g3 _ (by omega)]
        · rw [c2, pk_un (by omega)]
        · rw [c3, pk_un (by omega)]
        · rw [c4, pk_un (by omega)]
        · rw [c5, pk_un (by omega)]
theorem sumn_drop (cn : Nat → Nat) (k : Nat) : ∀ R, k ≤ R → sumn (fun r => if r < k then cn r else cn (r + 1)) R + cn k = sumn cn (R + 1)
  | 0, h => by
    have : k = 0 := by omega
    subst this
    rfl
  | R + 1, h => by
    by_cases e : k = R + 1
    · subst e
      have hh : ∀ m, m ≤ R + 1 → sumn (fun r => if r < R + 1 then cn r else cn (r + 1)) m = sumn cn m := by
        intro m
        induction m with
        | zero => intro _; rfl
        | succ m ih => intro hm; rw [sumn, sumn, ih (by omega), if_pos (by omega)]
      rw [hh (R + 1) (Nat.le_refl _)]
      rfl
    · have ih := sumn_drop cn k R (by omega)
      rw [sumn, sumn, ← ih, if_neg (by omega)]
      omega
theorem drop_ok {fu : Nat} (hfu : 50 ≤ fu) (h : InvR G qq_ruleCount qq_pi ba_al ba_pe ba_pc ba_en ba_bh ba_rd v_rules v_glob v_length v_allows v_permissions v_many) (p bb_stateCount v_states : Int32) : ∃ (r rc : Int32) (pi' : Nat → Nat) (sc vr vs : Int32) (gl' le' al' pe' ma' : Nat → Int32), f_G_drop fu p qq_ruleCount qq_pi bb_stateCount = some (r, rc, pi', sc) ∧ f_M_drop fu p v_rules v_states v_glob v_length v_allows v_permissions v_many = some (r, vr, vs, gl', le', al', pe', ma') ∧ InvR G rc pi' ba_al ba_pe ba_pc ba_en ba_bh ba_rd vr gl' le' al' pe' ma' ∧ ((sc = bb_stateCount ∧ vs = v_states) ∨ (sc = 0 ∧ vs = 0)) := by
  have h0 := h
  obtain ⟨R, cn, hR, rfl, rfl, hp6, hinj, hru, hsum⟩ := h
  by_cases hp : ∃ r, r < R ∧ p = nI r
  · obtain ⟨k, hk, rfl⟩ := hp
    have h01 : ∀ j, j < R → v_allows j = 0 ∨ v_allows j = 1 := fun j hj => by
      obtain ⟨t, n, -, -, -, -, e, -⟩ := hru j hj
      exact e
    obtain ⟨pi1, e1, a1, b1, c1⟩ := dropC hR (hp6 k (by omega)) (fun l3_14 qq_pi_14 => (Option.bind (f_Table_clear) fun ybb_stateCount_12 => (if ((1 : Int32) = 0 ∨ (1 : Int32) = 1) then some ((1 : Int32), (nI R - (1 : Int32)), qq_pi_14, ybb_stateCount_12) else none))) (R - 1 - k) k fu qq_pi (by omega) (by omega) hp6 rfl
    obtain ⟨gl', le', al', pe', ma', e2, a2, b2⟩ := dropM hR hfu (fun l2_28 v_glob_28 v_length_28 v_allows_28 v_permissions_28 v_many_28 => (if ((1 : Int32) = 0 ∨ (1 : Int32) = 1) then some ((1 : Int32), (nI R - (1 : Int32)), (0 : Int32), v_glob_28, v_length_28, v_allows_28, v_permissions_28, v_many_28) else none)) (R - 1 - k) k fu v_glob v_length v_allows v_permissions v_many (by omega) (by omega) h01
    have eR : nI R - 1 = nI (R - 1) := pk_sub (b := 1) (by omega)
    have hpi : ∀ j, j < 6 → pi1 j = qq_pi (if j < k ∨ R ≤ j then j else if j < R - 1 then j + 1 else k) := by
      intro j hj
      by_cases z : j = R - 1
      · subst z; rw [if_neg (by omega), if_neg (by omega)]; exact c1
      · by_cases z1 : j < k ∨ R ≤ j
        · rw [if_pos z1, a1 j (by omega)]
        · rw [if_neg z1, if_pos (by omega), b1 j (by omega) (by omega)]
    refine ⟨1, nI (R - 1), pi1, 0, nI (R - 1), 0, gl', le', al', pe', ma', ?_, ?_, ⟨R - 1, fun r => if r < k then cn r else cn (r + 1), by omega, rfl, rfl, fun j hj => ?_, fun i j hi hj hij => ?_, fun r hr => ?_, ?_⟩, Or.inr ⟨rfl, rfl⟩⟩
    · unfold f_G_drop
      rw [ruleAt_in hR hk]
      refine Eq.trans e1 ?_
      rw [eR]
      rfl
    · unfold f_M_drop
      rw [(in_S (by omega) _).1 ⟨k, hk, rfl⟩]
      show (if (1 : Int32) = 0 then (if ((0 : Int32) = 0 ∨ (0 : Int32) = 1) then some ((0 : Int32), nI R, v_states, v_glob, v_length, v_allows, v_permissions, v_many) else none) else _) = _
      rw [ifF (by decide)]
      refine Eq.trans e2 ?_
      rw [eR]
      rfl
    · rw [hpi j hj]
      refine hp6 _ ?_
      split
      · omega
      · split <;> omega
    · rw [hpi i hi, hpi j hj] at hij
      have := hinj _ _ (by split; omega; split <;> omega) (by split; omega; split <;> omega) hij
      revert this
      split <;> split <;> (try split) <;> (try split) <;> intro this <;> omega
    · rw [hpi r (by omega)]
      by_cases z : r < k
      · obtain ⟨c1, c2, c3, c4, c5⟩ := a2 r z
        rw [if_pos (Or.inl z), c2, c3, c4, c5]
        show RuleOK G _ _ _ _ _ _ _ _ _ _ _ _ (if r < k then cn r else cn (r + 1))
        rw [if_pos z]
        obtain ⟨t, n, d1, d2, d3, d4⟩ := hru r (by omega)
        exact ⟨t, n, d1, d2, fun i hi => by rw [c1 i (by omega)]; exact d3 i hi, d4⟩
      · obtain ⟨c1, c2, c3, c4, c5⟩ := b2 r (by omega) (by omega)
        rw [if_neg (by omega), if_pos (by omega), c2, c3, c4, c5]
        show RuleOK G _ _ _ _ _ _ _ _ _ _ _ _ (if r < k then cn r else cn (r + 1))
        rw [if_neg z]
        obtain ⟨t, n, d1, d2, d3, d4⟩ := hru (r + 1) (by omega)
        exact ⟨t, n, d1, d2, fun i hi => by rw [c1 i (by omega)]; exact d3 i hi, d4⟩
    · have := sumn_drop cn k (R - 1) (by omega)
      rw [show R - 1 + 1 = R by omega] at this
      omega
  · refine ⟨0, nI R, qq_pi, bb_stateCount, nI R, v_states, v_glob, v_length, v_allows, v_permissions, v_many, ?_, ?_, h0, Or.inl ⟨rfl, rfl⟩⟩
    · unfold f_G_drop
      rw [ruleAt_out hR hp]; rfl
    · unfold f_M_drop
      rw [(in_S (by omega) _).2 hp]; rfl
end RUL
