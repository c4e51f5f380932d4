/-! the reference reads a glob: units -/
theorem item_ok {k p : Int32} {x : Nat} (hx : x < 42) (so pi on : Nat → Int32) : f_M_item k p (nI x) so pi on = some (nI (x + 1), upd so x k, upd pi x p, upd on x (-1)) := by
  have hi : inB (nI x) 42 = true := inB_nI hx (by omega)
  unfold f_M_item
  rw [ifT hi, ifT hi, ifT hi, nI_clamp (by omega), nI_1]
/-- a unit that is a piece -/
def unp (t : Nat → Nat) (n a : Nat) : Nat ⊕ (Nat × Bool × SS × Nat) :=
  if t a = 92 then (if a + 1 < n then .inr (0, false, one_ (t (a + 1)), a + 2) else .inl n)
  else if t a = 63 then .inr (0, false, nosl, a + 1)
  else if t a = 42 then (if chr_ t n (a + 1) = 42 then .inr (0, true, (fun _ => true), a + 2) else .inr (0, true, nosl, a + 1))
  else if t a = 91 then (match br t n a with
    | .inl j => .inl j
    | .inr q => .inr (0, false, q.1, q.2))
  else .inr (0, false, one_ (t a), a + 1)
theorem un_p {t : Nat → Nat} {n a dp : Nat} {rw_ : Bool} (h1 : ¬ t a = 123) (h2 : ¬ t a = 125) (h3 : ¬ t a = 93) (h4 : ¬ (t a = 44 ∧ 0 < dp)) : un t n a dp rw_ = unp t n a := by
  unfold un
  rw [if_neg h1, if_neg h2, if_neg h3, if_neg h4]
  rfl
section UM
variable {t : Nat → Nat} {n off tl fu : Nat} {vT : Nat → Int32} {P0 q : Nat} {vB0 : Nat → Int64} {S : Nat → SS}
theorem m1sub {j n : Nat} (hj : j ≤ n) (hn : n ≤ 1000) : (if nI n ≤ nI j then (-1 : Int32) - nI n else -1 - nI j) = -1 - nI j := by
  by_cases z : nI n ≤ nI j
  · have : n ≤ j := (nI_leI (by omega) (by omega)).mp z
    have e : j = n := by omega
    rw [ifT z, e]
  · rw [ifF z]
theorem clM_ok (hT : TXM t n off tl vT) (hP : P0 + q < 100) (hfu : 200 ≤ fu) {x : Nat} (hx : x < 42) {a : Nat} (ha : a < n) {so pi on vS : Nat → Int32} {vB : Nat → Int64} (hB : HBf P0 q vB0 S vB) :
    (∀ j, br t n a = .inl j → ∃ i' p' so' pi' on' vB' vS', f_M_readClass fu tl (nI off) (nI n) (nI a) (nI x) (nI (P0 + q)) so pi on vB vS vT = some (-1 - nI j, i', p', so', pi', on', vB', vS')) ∧
    ∀ u, br t n a = .inr u → ∃ vB', f_M_readClass fu tl (nI off) (nI n) (nI a) (nI x) (nI (P0 + q)) so pi on vB vS vT = some (nI u.2, nI (x + 1), nI (P0 + q + 1), upd so x 0, upd pi x (nI (P0 + q)), upd on x (-1), vB', upd vS (P0 + q) 0) ∧ HB P0 q vB0 S u.1 vB' := by
  have hn := hT.1
  obtain ⟨b1, b2⟩ := bk0_ok (t := t) ha
  have main : ∀ (ot : Bool) (vB1 : Nat → Int64), HB P0 q vB0 S (fun _ => ot) vB1 → bot t n a = ot →
      (∀ j, br t n a = .inl j → ∃ i' p' so' pi' on' vB' vS', f_M_readClass_J46 vT tl (nI off) (nI n) fu (nI (P0 + q)) (if ot = true then 1 else 0) (nI (bk0 t n a)) (nI x) (nI (P0 + q + 1)) so pi on vB1 (upd vS (P0 + q) 0) = some (-1 - nI j, i', p', so', pi', on', vB', vS')) ∧
      ∀ u, br t n a = .inr u → ∃ vB', f_M_readClass_J46 vT tl (nI off) (nI n) fu (nI (P0 + q)) (if ot = true then 1 else 0) (nI (bk0 t n a)) (nI x) (nI (P0 + q + 1)) so pi on vB1 (upd vS (P0 + q) 0) = some (nI u.2, nI (x + 1), nI (P0 + q + 1), upd so x 0, upd pi x (nI (P0 + q)), upd on x (-1), vB', upd vS (P0 + q) 0) ∧ HB P0 q vB0 S u.1 vB' := fun ot vB1 h1 hot => by
    unfold br f_M_readClass_J46
    rw [cM hT (by omega), ob, elM hT, ob, hot]
    by_cases hel : isEl (chr_ t n (bk0 t n a)) = true
    · rw [if_pos hel, if_pos hel, ifF (show ¬ (1 : Int32) = 0 by decide)]
      obtain ⟨g1, g2⟩ := L77_ok hT hP hfu ot (fun l7_77 v_bytes_77 => (Option.bind (f_M_setByte (nI (P0 + q)) (47 : Int32) (0 : Int32) v_bytes_77) fun yv_bytes_29 => (Option.bind (f_M_item (0 : Int32) (nI (P0 + q)) (nI x) so pi on) fun (yv_items_31, yv_sort_32, yv_piece_33, yv_onward_34) => some ((l7_77 + (1 : Int32)), yv_items_31, nI (P0 + q + 1), yv_sort_32, yv_piece_33, yv_onward_34, yv_bytes_29, upd vS (P0 + q) 0)))) (fun l7_77 v_bytes_77 => (if nI n ≤ (l7_77 + (1 : Int32)) then some (((-1 : Int32) - nI n), nI x, nI (P0 + q + 1), so, pi, on, v_bytes_77, upd vS (P0 + q) 0) else some (((-1 : Int32) - (l7_77 + (1 : Int32))), nI x, nI (P0 + q + 1), so, pi, on, v_bytes_77, upd vS (P0 + q) 0))) (fun l7_77 v_bytes_77 => (if nI n ≤ l7_77 then some (((-1 : Int32) - nI n), nI x, nI (P0 + q + 1), so, pi, on, v_bytes_77, upd vS (P0 + q) 0) else some (((-1 : Int32) - l7_77), nI x, nI (P0 + q + 1), so, pi, on, v_bytes_77, upd vS (P0 + q) 0))) 41 (bk0 t n a) fu (fun _ => ot) vB1 b2 (by omega) (by omega) h1
      have hbe := be_ok (t := t) (v := !ot) 41 (bk0 t n a) (fun _ => ot) b2
      cases hb : be t n (!ot) 41 (bk0 t n a) (fun _ => ot) with
      | inl j =>
        refine ⟨fun j' e => ?_, fun u e => (by cases e)⟩
        cases e
        have hj := hbe.1 j hb
        obtain ⟨vB', h⟩ := g1 j hb
        refine ⟨nI x, nI (P0 + q + 1), so, pi, on, vB', upd vS (P0 + q) 0, ?_⟩
        have fin : (if nI n ≤ nI j then some (((-1 : Int32) - nI n), nI x, nI (P0 + q + 1), so, pi, on, vB', upd vS (P0 + q) 0) else some (((-1 : Int32) - nI j), nI x, nI (P0 + q + 1), so, pi, on, vB', upd vS (P0 + q) 0)) = some (-1 - nI j, nI x, nI (P0 + q + 1), so, pi, on, vB', upd vS (P0 + q) 0) := by
          by_cases z : nI n ≤ nI j
          · have : n ≤ j := (nI_leI (by omega) (by omega)).mp z
            have e : j = n := by omega
            rw [ifT z, e]
          · rw [ifF z]
        rcases h with ⟨i, e1, e2⟩ | e2
        · subst e1
          refine Eq.trans e2 ?_
          show (if nI n ≤ nI i + 1 then some (((-1 : Int32) - nI n), nI x, nI (P0 + q + 1), so, pi, on, vB', upd vS (P0 + q) 0) else some (((-1 : Int32) - (nI i + 1)), nI x, nI (P0 + q + 1), so, pi, on, vB', upd vS (P0 + q) 0)) = _
          rw [nI_1]
          exact fin
        · exact Eq.trans e2 fin
      | inr u =>
        refine ⟨fun j' e => (by cases e), fun w e => ?_⟩
        cases e
        obtain ⟨vB', e1, e2⟩ := g2 u hb
        obtain ⟨vB2, s1, s2⟩ := sB_ok (vB := vB') hP (show 47 < 256 by omega) false
        have s1' : f_M_setByte (nI (P0 + q)) 47 0 vB' = some vB2 := s1
        refine ⟨vB2, Eq.trans e1 ?_, e2.set (c := 47) (by omega) (by omega) s2⟩
        show Option.bind (f_M_setByte (nI (P0 + q)) (47 : Int32) (0 : Int32) vB') _ = _
        rw [s1', ob, item_ok hx, ob]
        dsimp only
        rw [nI_1]
    · rw [if_neg hel, if_neg hel, ifT (show (0 : Int32) = 0 from rfl)]
      refine ⟨fun j' e => ?_, fun u e => (by cases e)⟩
      cases e
      refine ⟨nI x, nI (P0 + q + 1), so, pi, on, vB1, upd vS (P0 + q) 0, ?_⟩
      by_cases z : nI n ≤ nI (bk0 t n a)
      · have : n ≤ bk0 t n a := (nI_leI (by omega) (by omega)).mp z
        have e : bk0 t n a = n := by omega
        rw [ifT z, e]
      · rw [ifF z]
  unfold f_M_readClass
  rw [nI_1, cM hT (by omega), ob]
  by_cases h94 : chr_ t n (a + 1) = 94
  · have hbk : bk0 t n a = a + 2 := by unfold bk0; rw [if_pos h94]
    have hot : bot t n a = true := by unfold bot; rw [h94]; rfl
    have e94 : chM t n (a + 1) = 94 := (chM_eq hT (l := 94) (by omega) (by omega)).mpr h94
    obtain ⟨vB1, p1, p2⟩ := nP_ok (fu := fu) hP (by omega) true vB vS
    have p1' : f_M_newPiece fu 1 (nI (P0 + q)) vB vS = some (nI (P0 + q), nI (P0 + q + 1), vB1, upd vS (P0 + q) 0) := p1
    obtain ⟨m1, m2⟩ := main true vB1 (hB.new p2) hot
    rw [ifT e94]
    unfold f_M_readClass_J20
    have ea : nI a + 2 = nI (a + 2) := by rw [show (2 : Int32) = nI 2 from rfl, nI_add]
    rw [p1', ob]
    dsimp only
    rw [ifF (show ¬ (1 : Int32) = 0 by decide), ea]
    rw [hbk] at m1 m2
    exact ⟨fun j e => m1 j e, fun u e => m2 u e⟩
  · have hbk : bk0 t n a = a + 1 := by unfold bk0; rw [if_neg h94]
    have hot : bot t n a = false := by unfold bot; exact decide_eq_false h94
    have e94 : ¬ chM t n (a + 1) = 94 := fun z => h94 ((chM_eq hT (l := 94) (by omega) (by omega)).mp z)
    obtain ⟨vB1, p1, p2⟩ := nP_ok (fu := fu) hP (by omega) false vB vS
    have p1' : f_M_newPiece fu 0 (nI (P0 + q)) vB vS = some (nI (P0 + q), nI (P0 + q + 1), vB1, upd vS (P0 + q) 0) := p1
    obtain ⟨m1, m2⟩ := main false vB1 (hB.new p2) hot
    rw [ifF e94]
    unfold f_M_readClass_J20
    rw [p1', ob]
    dsimp only
    rw [ifT (show (0 : Int32) = 0 from rfl), nI_1]
    rw [hbk] at m1 m2
    exact ⟨fun j e => m1 j e, fun u e => m2 u e⟩
theorem J171_ok {x a : Nat} (hx : x < 42) (hP : P0 + q < 100) {bo c s2 pcs : Int32} {so pi on vS : Nat → Int32} {vB : Nat → Int64} (hs : s2 = 0 ∨ s2 = 1) : f_M_readPiece_J171 (nI a) (nI (P0 + q)) bo c (nI (P0 + q)) s2 (nI x) pcs so pi on vB vS = some ((if bo = 0 then (if c = 92 then nI (a + 2) else nI (a + 1)) else nI (a + 2)), nI (x + 1), pcs, upd so x 0, upd pi x (nI (P0 + q)), upd on x (-1), vB, upd vS (P0 + q) s2) := by
  have ea : nI a + 2 = nI (a + 2) := by rw [show (2 : Int32) = nI 2 from rfl, nI_add]
  unfold f_M_readPiece_J171
  rw [ifT (inB_nI hP (by omega)), item_ok hx, ob]
  dsimp only
  rw [nI_clamp (by omega), nar01 hs, ea, nI_1]
  by_cases z : bo = 0
  · rw [ifT z, if_pos z]
    by_cases z2 : c = 92
    · rw [ifT z2, if_pos z2]
    · rw [ifF z2, if_neg z2]
  · rw [ifF z, if_neg z]
/-- the star of a piece that has just been read -/
def StN (P q : Nat) (b : Bool) (vS vS' : Nat → Int32) : Prop := vS' P = (if b = true then 1 else 0) ∧ ∀ p, ¬ p = P → vS' p = vS p
theorem StN.of {P : Nat} {b : Bool} {vS : Nat → Int32} : StN P 0 b vS (upd (upd vS P 0) P (if b = true then 1 else 0)) := ⟨pk_us, fun p hp => by rw [pk_un hp, pk_un hp]⟩
theorem rpM_ok (hT : TXM t n off tl vT) (hP : P0 + q < 100) (hfu : 200 ≤ fu) {x : Nat} (hx : x < 42) {a : Nat} (ha : a < n) {so pi on vS : Nat → Int32} {vB : Nat → Int64} (hB : HBf P0 q vB0 S vB) :
    (∀ j, unp t n a = .inl j → ∃ i' p' so' pi' on' vB' vS', f_M_readPiece fu tl (nI off) (nI n) (nI a) (nI x) (nI (P0 + q)) so pi on vB vS vT = some (-1 - nI j, i', p', so', pi', on', vB', vS') ∧ j ≤ n) ∧
    ∀ u, unp t n a = .inr u → ∃ vB' vS', f_M_readPiece fu tl (nI off) (nI n) (nI a) (nI x) (nI (P0 + q)) so pi on vB vS vT = some (nI u.2.2.2, nI (x + 1), nI (P0 + q + 1), upd so x 0, upd pi x (nI (P0 + q)), upd on x (-1), vB', vS') ∧ u.1 = 0 ∧ HB P0 q vB0 S u.2.2.1 vB' ∧ StN (P0 + q) 0 u.2.1 vS vS' := by
  have hn := hT.1
  obtain ⟨hT1, hT2, hT3, hT4⟩ := hT
  have hT : TXM t n off tl vT := ⟨hT1, hT2, hT3, hT4⟩
  obtain ⟨ea, l1, l2⟩ := hT4 a ha
  have lit : ∀ l : Nat, l < 1000 → ¬ t a = l → ¬ nI (t a) = nI l := fun l hl h z => h ((nI_eq (by omega) (by omega)).mp z)
  unfold f_M_readPiece
  rw [nI_add, ifT (inB_nI (by omega) (by omega)), nI_clamp (by omega), ea]
  -- what newPiece makes
  obtain ⟨vW, w1, w2⟩ := nP_ok (fu := fu) hP (by omega) true vB vS
  have w1' : f_M_newPiece fu 1 (nI (P0 + q)) vB vS = some (nI (P0 + q), nI (P0 + q + 1), vW, upd vS (P0 + q) 0) := w1
  obtain ⟨vE, e1, e2⟩ := nP_ok (fu := fu) hP (by omega) false vB vS
  have e1' : f_M_newPiece fu 0 (nI (P0 + q)) vB vS = some (nI (P0 + q), nI (P0 + q + 1), vE, upd vS (P0 + q) 0) := e1
  have hW := hB.new w2
  have hE := hB.new e2
  obtain ⟨vN, n1, n2⟩ := sB_ok (vB := vW) hP (show 47 < 256 by omega) false
  have n1' : f_M_setByte (nI (P0 + q)) 47 0 vW = some vN := n1
  have hN : HB P0 q vB0 S nosl vN := hW.set (c := 47) (by omega) (by omega) n2
  -- a piece of one byte
  have single : ∀ c, 33 ≤ c → c ≤ 126 → ∃ vO, f_M_setByte (nI (P0 + q)) (nI c) 1 vE = some vO ∧ HB P0 q vB0 S (one_ c) vO := fun c c1 c2 => by
    obtain ⟨vO, o1, o2⟩ := sB_ok (vB := vE) hP (show c < 256 by omega) true
    exact ⟨vO, o1, hE.set c1 c2 o2⟩
  by_cases q91 : t a = 91
  · obtain ⟨m1, m2⟩ := clM_ok (so := so) (pi := pi) (on := on) (vS := vS) hT hP hfu hx ha hB
    have eu : unp t n a = (match br t n a with
        | .inl j => .inl j
        | .inr q => .inr (0, false, q.1, q.2)) := by
      unfold unp
      rw [if_neg (by omega), if_neg (by omega), if_neg (by omega), if_pos q91]
    rw [ifT (show nI (t a) = 91 by rw [q91]; rfl), eu]
    cases hb : br t n a with
    | inl j =>
      refine ⟨fun j' e => ?_, fun u e => (by cases e)⟩
      cases e
      obtain ⟨i', p', so', pi', on', vB', vS', g⟩ := m1 j hb
      rw [g]
      exact ⟨i', p', so', pi', on', vB', vS', rfl, (br_ok (t := t) ha).1 j hb⟩
    | inr u =>
      refine ⟨fun j' e => (by cases e), fun w e => ?_⟩
      cases e
      obtain ⟨vB', g1, g2⟩ := m2 u hb
      rw [g1]
      exact ⟨vB', _, rfl, rfl, g2, ⟨pk_us, fun p hp => pk_un hp⟩⟩
  · have n91 : ¬ nI (t a) = 91 := lit 91 (by omega) q91
    rw [ifF n91]
    by_cases q92 : t a = 92
    · have eq92 : nI (t a) = 92 := by rw [q92]; rfl
      rw [ifT eq92, nI_1]
      by_cases h : a + 1 < n
      · have eu : unp t n a = .inr (0, false, one_ (t (a + 1)), a + 2) := by
          unfold unp
          rw [if_pos q92, if_pos h]
        obtain ⟨ea1, k1, k2⟩ := hT4 (a + 1) h
        obtain ⟨vO, o1, o2⟩ := single (t (a + 1)) k1 k2
        have n63 : ¬ nI (t a) = 63 := lit 63 (by omega) (by omega)
        have n42 : ¬ nI (t a) = 42 := lit 42 (by omega) (by omega)
        have eoff : nI off + nI a + 1 = nI (off + (a + 1)) := by rw [nI_add, nI_1]; rfl
        rw [ifT (nI_lt h (by omega)), eu]
        refine ⟨fun j e => (by cases e), fun u e => ?_⟩
        cases e
        refine ⟨vO, upd (upd vS (P0 + q) 0) (P0 + q) 0, ?_, rfl, o2, StN.of (b := false)⟩
        unfold f_M_readPiece_J44 f_M_readPiece_J63 f_M_readPiece_J91 f_M_readPiece_J92
        rw [ifF n63, ifF n42, ifF n42, e1', ob]
        dsimp only
        rw [ifT (show (0 : Int32) = 0 from rfl)]
        unfold f_M_readPiece_J121 f_M_readPiece_J149 f_M_readPiece_J153
        rw [ifT (show (0 : Int32) = 0 from rfl), ifT eq92, eoff, ifT (inB_nI (by omega) (by omega)), nI_clamp (by omega), ea1, o1, ob, ifF n42, J171_ok hx hP (Or.inl rfl), if_pos rfl, if_pos eq92]
      · have eu : unp t n a = .inl n := by
          unfold unp
          rw [if_pos q92, if_neg h]
        have q1 : ¬ nI (a + 1) < nI n := fun z => by have := (nI_ltI (by omega) (by omega)).mp z; omega
        rw [ifF q1, eu]
        refine ⟨fun j e => ?_, fun u e => (by cases e)⟩
        cases e
        exact ⟨_, _, _, _, _, _, _, rfl, Nat.le_refl _⟩
    · have n92 : ¬ nI (t a) = 92 := lit 92 (by omega) q92
      rw [ifF n92]
      unfold f_M_readPiece_J44
      by_cases q63 : t a = 63
      · have eu : unp t n a = .inr (0, false, nosl, a + 1) := by
          unfold unp
          rw [if_neg q92, if_pos q63]
        have n42 : ¬ nI (t a) = 42 := lit 42 (by omega) (by omega)
        rw [ifT (show nI (t a) = 63 by rw [q63]; rfl), eu]
        refine ⟨fun j e => (by cases e), fun u e => ?_⟩
        cases e
        refine ⟨vN, upd (upd vS (P0 + q) 0) (P0 + q) 0, ?_, rfl, hN, StN.of (b := false)⟩
        unfold f_M_readPiece_J58 f_M_readPiece_J63 f_M_readPiece_J91 f_M_readPiece_J92
        rw [ifF n42, w1', ob]
        dsimp only
        rw [ifF (show ¬ (1 : Int32) = 0 by decide), ifT (show (0 : Int32) = 0 from rfl), n1', ob]
        unfold f_M_readPiece_J121 f_M_readPiece_J153
        rw [ifF (show ¬ (1 : Int32) = 0 by decide), ifF n42, J171_ok hx hP (Or.inl rfl), if_pos rfl, if_neg n92]
      · have n63 : ¬ nI (t a) = 63 := lit 63 (by omega) q63
        rw [ifF n63]
        by_cases q42 : t a = 42
        · have eq42 : nI (t a) = 42 := by rw [q42]; rfl
          rw [ifT eq42]
          unfold f_M_readPiece_J58 f_M_readPiece_J63
          rw [ifT eq42, nI_1, cM hT (by omega), ob]
          by_cases h : chr_ t n (a + 1) = 42
          · have eu : unp t n a = .inr (0, true, (fun _ => true), a + 2) := by
              unfold unp
              rw [if_neg q92, if_neg q63, if_pos q42, if_pos h]
            have e42 : chM t n (a + 1) = 42 := (chM_eq hT (l := 42) (by omega) (by omega)).mpr h
            rw [ifT e42, eu]
            refine ⟨fun j e => (by cases e), fun u e => ?_⟩
            cases e
            refine ⟨vW, upd (upd vS (P0 + q) 0) (P0 + q) 1, ?_, rfl, hW, StN.of (b := true)⟩
            unfold f_M_readPiece_J92
            rw [w1', ob]
            dsimp only
            rw [ifF (show ¬ (1 : Int32) = 0 by decide), ifF (show ¬ (1 : Int32) = 0 by decide)]
            unfold f_M_readPiece_J121 f_M_readPiece_J153
            rw [ifF (show ¬ (1 : Int32) = 0 by decide), ifT eq42, J171_ok hx hP (Or.inr rfl), if_neg (show ¬ (1 : Int32) = 0 by decide)]
          · have eu : unp t n a = .inr (0, true, nosl, a + 1) := by
              unfold unp
              rw [if_neg q92, if_neg q63, if_pos q42, if_neg h]
            have e42 : ¬ chM t n (a + 1) = 42 := fun z => h ((chM_eq hT (l := 42) (by omega) (by omega)).mp z)
            rw [ifF e42, eu]
            refine ⟨fun j e => (by cases e), fun u e => ?_⟩
            cases e
            refine ⟨vN, upd (upd vS (P0 + q) 0) (P0 + q) 1, ?_, rfl, hN, StN.of (b := true)⟩
            unfold f_M_readPiece_J91 f_M_readPiece_J92
            rw [w1', ob]
            dsimp only
            rw [ifF (show ¬ (1 : Int32) = 0 by decide), ifT (show (0 : Int32) = 0 from rfl), n1', ob]
            unfold f_M_readPiece_J121 f_M_readPiece_J153
            rw [ifF (show ¬ (1 : Int32) = 0 by decide), ifT eq42, J171_ok hx hP (Or.inr rfl), if_pos rfl, if_neg n92]
        · have n42 : ¬ nI (t a) = 42 := lit 42 (by omega) q42
          have eu : unp t n a = .inr (0, false, one_ (t a), a + 1) := by
            unfold unp
            rw [if_neg q92, if_neg q63, if_neg q42, if_neg q91]
          obtain ⟨vO, o1, o2⟩ := single (t a) l1 l2
          rw [ifF n42, eu]
          refine ⟨fun j e => (by cases e), fun u e => ?_⟩
          cases e
          refine ⟨vO, upd (upd vS (P0 + q) 0) (P0 + q) 0, ?_, rfl, o2, StN.of (b := false)⟩
          unfold f_M_readPiece_J63 f_M_readPiece_J91 f_M_readPiece_J92
          rw [ifF n42, e1', ob]
          dsimp only
          rw [ifT (show (0 : Int32) = 0 from rfl)]
          unfold f_M_readPiece_J121 f_M_readPiece_J149 f_M_readPiece_J153
          rw [ifT (show (0 : Int32) = 0 from rfl), ifF n92, o1, ob, ifF n42, J171_ok hx hP (Or.inl rfl), if_pos rfl, if_neg n92]
end UM
