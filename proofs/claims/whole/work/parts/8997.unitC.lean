/-! the class reads a glob: units, and the whole -/
section UC
variable {t : Nat → Nat} {n fu : Nat} {tt : Nat → Int32}
theorem brC_ok (hT : TX t n tt) (hfu : 100 ≤ fu) {kd : Nat → Nat} {sr : Nat → Bool} {x : Nat} {S : Nat → SS} {en : Int64} {bh rd : Nat → Int64} (hq : pn kd x ≤ 39) (hE : EB kd sr x en bh) (hR : RDc (pn kd x) S (fun _ => false) rd) {a : Nat} (ha : a < n) :
    (∀ j, br t n a = .inl j → ∃ y pc en' bh' rd', f_Reader_readBrackets fu (nI a) (-1) (nI n) tt (nI (pn kd x)) en bh rd = some (y, nI j, pc, en', bh', rd')) ∧
    ∀ u, br t n a = .inr u → ∃ en' bh' rd', f_Reader_readBrackets fu (nI a) (-1) (nI n) tt (nI (pn kd x)) en bh rd = some (nI u.2, -1, nI (pn kd x + 1), en', bh', rd') ∧ EB (va_up kd x 0) (va_up sr x false) (x + 1) en' bh' ∧ RDc (pn kd x) S u.1 rd' := by
  have hn := hT.1
  obtain ⟨b1, b2⟩ := bk0_ok (t := t) ha
  obtain ⟨en', bh', p1, p2⟩ := ap_ok hq hfu hE false
  have c1 := chC hT (show a + 1 < 1000 by omega)
  -- the elements from place k on, with the set cur
  have main : ∀ (ot : Bool) (rd1 : Nat → Int64), RDc (pn kd x) S (fun _ => ot) rd1 → bot t n a = ot →
      (∀ j, br t n a = .inl j → ∃ y pc en2 bh2 rd', f_Reader_readBrackets_J48 (nI n) tt fu (if ot = true then 1 else 0) (nI (bk0 t n a)) (-1) (nI (pn kd x + 1)) en' bh' rd1 = some (y, nI j, pc, en2, bh2, rd')) ∧
      ∀ u, br t n a = .inr u → ∃ rd', f_Reader_readBrackets_J48 (nI n) tt fu (if ot = true then 1 else 0) (nI (bk0 t n a)) (-1) (nI (pn kd x + 1)) en' bh' rd1 = some (nI u.2, -1, nI (pn kd x + 1), en', bh', rd') ∧ RDc (pn kd x) S u.1 rd' := fun ot rd1 h1 hot => by
    unfold br f_Reader_readBrackets_J48
    rw [hot]
    by_cases hel : isEl (chr_ t n (bk0 t n a)) = true
    · rw [if_pos hel]
      obtain ⟨g1, g2⟩ := L50_ok hT hq hfu ot (fun l2_50 rr_at_50 rr_fault_50 gg_readersOf_50 => (f_Reader_readBrackets_J106 (nI n) tt fu rr_at_50 rr_fault_50 (nI (pn kd x + 1)) en' bh' gg_readersOf_50)) (fun l2_50 rr_at_50 rr_fault_50 gg_readersOf_50 => (f_Reader_readBrackets_J106 (nI n) tt fu rr_at_50 rr_fault_50 (nI (pn kd x + 1)) en' bh' gg_readersOf_50)) 41 0 (bk0 t n a) fu (fun _ => ot) rd1 b2 (by omega) (by omega) (Or.inr hel) (by omega) h1
      cases hb : be t n (!ot) 41 (bk0 t n a) (fun _ => ot) with
      | inl j =>
        refine ⟨fun j' e => ?_, fun u e => (by cases e)⟩
        cases e
        obtain ⟨x1, y1, rd2, e2⟩ := g1 j hb
        have hj := (be_ok (t := t) (v := !ot) 41 (bk0 t n a) (fun _ => ot) b2).1 j hb
        refine ⟨y1, nI (pn kd x + 1), en', bh', rd2, Eq.trans e2 ?_⟩
        unfold f_Reader_readBrackets_J106
        rw [ifF (nI_nm1 (by omega))]
      | inr u =>
        refine ⟨fun j' e => (by cases e), fun w e => ?_⟩
        cases e
        obtain ⟨x1, rd2, e2, e3⟩ := g2 u hb
        obtain ⟨u1, u2⟩ := (be_ok (t := t) (v := !ot) 41 (bk0 t n a) (fun _ => ot) b2).2 u hb
        obtain ⟨rd3, s1, s2⟩ := sr_slash hq hfu e3
        have c2 := chC hT (show u.2 < 1000 by omega)
        have h93 : chr_ t n u.2 = 93 := by
          have key2 : ∀ (g k : Nat) (cur : SS) (w : SS × Nat), be t n (!ot) g k cur = .inr w → chr_ t n w.2 = 93 := by
            intro g
            induction g with
            | zero => intro k cur w e; cases e
            | succ g ih =>
              intro k cur w e
              rw [be] at e
              by_cases z : chr_ t n k = 93
              · rw [if_pos z] at e; cases e; exact z
              · rw [if_neg z] at e
                cases he : el1 t n k with
                | inl j => rw [he] at e; cases e
                | inr v => rw [he] at e; exact ih _ _ _ e
          exact key2 41 _ _ u hb
        refine ⟨rd3, Eq.trans e2 ?_, s2⟩
        unfold f_Reader_readBrackets_J106
        rw [ifT rfl, s1, ob, c2, ob, ifT (show nI (chr_ t n u.2) = 93 by rw [h93]; rfl), ps1]
        rfl
    · rw [if_neg hel]
      refine ⟨fun j' e => ?_, fun u e => (by cases e)⟩
      cases e
      -- the first element is none: the class reads it all the same, and is at fault there
      have he : el1 t n (bk0 t n a) = .inl (bk0 t n a) := by unfold el1; rw [if_neg hel]
      have r1 := (rE_ok hT hq hfu b2 h1 (!ot)).1 _ he
      obtain ⟨f, rfl⟩ : ∃ g, fu = g + 1 + 1 := ⟨fu - 2, by omega⟩
      refine ⟨nI (bk0 t n a), nI (pn kd x + 1), en', bh', rd1, ?_⟩
      have fin : f_Reader_readBrackets_L50 (nI n) tt (if ot = true then 1 else 0) (nI (pn kd x + 1)) (f + 1 + 1) (fun l2_50 rr_at_50 rr_fault_50 gg_readersOf_50 => (f_Reader_readBrackets_J106 (nI n) tt (f + 1 + 1) rr_at_50 rr_fault_50 (nI (pn kd x + 1)) en' bh' gg_readersOf_50)) (fun l2_50 rr_at_50 rr_fault_50 gg_readersOf_50 => (f_Reader_readBrackets_J106 (nI n) tt (f + 1 + 1) rr_at_50 rr_fault_50 (nI (pn kd x + 1)) en' bh' gg_readersOf_50)) (f + 1) (nI 0 + 1) (nI (bk0 t n a)) (nI (bk0 t n a)) rd1 = some (nI (bk0 t n a), nI (bk0 t n a), nI (pn kd x + 1), en', bh', rd1) := by
        rw [f_Reader_readBrackets_L50_s, ifF (by decide), ifF (nI_nm1 (by omega))]
        unfold f_Reader_readBrackets_J106
        rw [ifF (nI_nm1 (by omega))]
      rw [f_Reader_readBrackets_L50_s, ifF (by decide), ifT rfl, ifT (by decide)]
      cases ot with
      | false =>
        rw [ifT (show (if false = true then (1 : Int32) else 0) = 0 from rfl)]
        have r1' : f_Reader_readElement (f + 1 + 1) 1 (nI (bk0 t n a)) (-1) (nI n) tt (nI (pn kd x + 1)) rd1 = some (nI (bk0 t n a), nI (bk0 t n a), rd1) := r1
        rw [r1']
        exact fin
      | true =>
        rw [ifF (show ¬ (if true = true then (1 : Int32) else 0) = 0 by decide)]
        have r1' : f_Reader_readElement (f + 1 + 1) 0 (nI (bk0 t n a)) (-1) (nI n) tt (nI (pn kd x + 1)) rd1 = some (nI (bk0 t n a), nI (bk0 t n a), rd1) := r1
        rw [r1']
        exact fin
  have hp0 : f_Glob_addPiece fu 0 (nI (pn kd x)) en bh = some (nI (pn kd x + 1), en', bh') := p1
  unfold f_Reader_readBrackets
  rw [ps1, ob]
  dsimp only
  rw [hp0, ob]
  dsimp only
  rw [c1, ob]
  by_cases h94 : chr_ t n (a + 1) = 94
  · have hbk : bk0 t n a = a + 1 + 1 := by unfold bk0; rw [if_pos h94]
    have hot : bot t n a = true := by unfold bot; rw [h94]; rfl
    obtain ⟨rd1, s1, s2⟩ := sr_all hq hfu hR
    obtain ⟨m1, m2⟩ := main true rd1 s2 hot
    rw [ifT (show nI (chr_ t n (a + 1)) = 94 by rw [h94]; rfl)]
    unfold f_Reader_readBrackets_J34
    rw [ifF (by decide), s1, ob, ps1, ob]
    dsimp only
    rw [hbk] at m1 m2
    refine ⟨fun j e => m1 j e, fun u e => ?_⟩
    obtain ⟨rd', e1, e2⟩ := m2 u e
    exact ⟨en', bh', rd', e1, p2, e2⟩
  · have hbk : bk0 t n a = a + 1 := by unfold bk0; rw [if_neg h94]
    have hot : bot t n a = false := by unfold bot; exact decide_eq_false h94
    obtain ⟨m1, m2⟩ := main false rd hR hot
    have q94 : ¬ nI (chr_ t n (a + 1)) = 94 := fun z => h94 ((nI_eq (b := 94) (by have := ch_lt hT (a + 1); omega) (by omega)).mp z)
    rw [ifF q94]
    unfold f_Reader_readBrackets_J34
    rw [ifT rfl]
    rw [hbk] at m1 m2
    refine ⟨fun j e => m1 j e, fun u e => ?_⟩
    obtain ⟨rd', e1, e2⟩ := m2 u e
    exact ⟨en', bh', rd', e1, p2, e2⟩
/-- the rows of the open choices -/
def GL (eb er : Nat → Int64) : List ((Nat → Prop) × (Nat → Prop)) → Prop
  | [] => True
  | p :: r => (∀ i, lb (eb r.length) i = true ↔ p.1 i) ∧ (∀ i, lb (er r.length) i = true ↔ p.2 i) ∧ GL eb er r
def RL (kd : Nat → Nat) (x a : Nat) (rc : Nat → Int32) : List Nat → Prop
  | [] => True
  | j :: r => j < x ∧ (∃ k, 1 ≤ k ∧ k ≤ a + 1 ∧ rc r.length = nI k ∧ (2 ≤ k ↔ kd j = 2)) ∧ RL kd x a rc r
theorem GL.up {eb er : Nat → Int64} {l : Nat} {v w : Int64} : ∀ {r : List ((Nat → Prop) × (Nat → Prop))}, GL eb er r → r.length ≤ l → GL (vp_updL eb l v) (vp_updL er l w) r
  | [], _, _ => trivial
  | p :: r, h, hl => by
    have hl' : r.length + 1 ≤ l := hl
    obtain ⟨h1, h2, h3⟩ := h
    exact ⟨fun i => by rw [pk_uLn (by omega)]; exact h1 i, fun i => by rw [pk_uLn (by omega)]; exact h2 i, GL.up h3 (by omega)⟩
theorem GL.up2 {eb er : Nat → Int64} {l : Nat} {w : Int64} : ∀ {r : List ((Nat → Prop) × (Nat → Prop))}, GL eb er r → r.length ≤ l → GL eb (vp_updL er l w) r
  | [], _, _ => trivial
  | p :: r, h, hl => by
    have hl' : r.length + 1 ≤ l := hl
    obtain ⟨h1, h2, h3⟩ := h
    exact ⟨h1, fun i => by rw [pk_uLn (by omega)]; exact h2 i, GL.up2 h3 (by omega)⟩
theorem RL.up {kd : Nat → Nat} {x a a' k l : Nat} {rc : Nat → Int32} {v : Int32} (ha : a ≤ a') : ∀ {r : List Nat}, RL kd x a rc r → r.length ≤ l → RL (va_up kd x k) (x + 1) a' (upd rc l v) r
  | [], _, _ => trivial
  | j :: r, h, hl => by
    have hl' : r.length + 1 ≤ l := hl
    obtain ⟨h1, ⟨k', g1, g2, g3, g4⟩, h3⟩ := h
    exact ⟨by omega, ⟨k', g1, by omega, by rw [pk_un (by omega)]; exact g3, by rw [up_n (by omega)]; exact g4⟩, RL.up ha h3 (by omega)⟩
theorem RL.keep {kd : Nat → Nat} {x a a' k : Nat} {rc : Nat → Int32} (ha : a ≤ a') : ∀ {r : List Nat}, RL kd x a rc r → RL (va_up kd x k) (x + 1) a' rc r
  | [], _ => trivial
  | j :: r, h => by
    obtain ⟨h1, ⟨k', g1, g2, g3, g4⟩, h3⟩ := h
    exact ⟨by omega, ⟨k', g1, by omega, g3, by rw [up_n (by omega)]; exact g4⟩, RL.keep ha h3⟩
/-- the class's glob stands where the parse stands -/
def RCl (a x : Nat) (kd : Nat → Nat) (sr : Nat → Bool) (S : Nat → SS) (lr : List Nat) (pc dp : Int32) (en : Int64) (bh rd eb er : Nat → Int64) (rc : Nat → Int32) : Prop :=
  pc = nI (pn kd x) ∧ dp = nI lr.length ∧ EB kd sr x en bh ∧ RDc (pn kd x) S (fun _ => false) rd ∧ GL eb er (gs kd sr x).2 ∧ RL kd x a rc lr
theorem RDc.fin {q : Nat} {S : Nat → SS} {cur : SS} {rd : Nat → Int64} (h : RDc q S cur rd) : RDc (q + 1) (va_up S q cur) (fun _ => false) rd := fun s hs i => by
  rw [h s hs i]
  constructor
  · rintro (⟨q', h1, h2, h3⟩ | ⟨h1, h2⟩)
    · exact Or.inl ⟨q', by omega, h2, by rw [up_n (by omega)]; exact h3⟩
    · exact Or.inl ⟨q, by omega, h1, by rw [up_s]; exact h2⟩
  · rintro (⟨q', h1, h2, h3⟩ | ⟨h1, h2⟩)
    · by_cases e : q' = q
      · subst e; rw [up_s] at h3; exact Or.inr ⟨h2, h3⟩
      · rw [up_n e] at h3; exact Or.inl ⟨q', by omega, h2, h3⟩
    · cases h2
theorem RCl.piece {a a' x : Nat} {kd : Nat → Nat} {sr : Nat → Bool} {S : Nat → SS} {lr : List Nat} {pc dp : Int32} {en en' : Int64} {bh rd bh' rd' eb er : Nat → Int64} {rc : Nat → Int32} (h : RCl a x kd sr S lr pc dp en bh rd eb er rc) (ha : a ≤ a') {b : Bool} {cur : SS} (hE : EB (va_up kd x 0) (va_up sr x b) (x + 1) en' bh') (hR : RDc (pn kd x) S cur rd') : RCl a' (x + 1) (va_up kd x 0) (va_up sr x b) (va_up S (pn kd x) cur) lr (nI (pn kd x + 1)) dp en' bh' rd' eb er rc := by
  obtain ⟨h1, h2, h3, h4, h5, h6⟩ := h
  have eP : pn (va_up kd x 0) x = pn kd x := pn_cg x (fun y hy => up_n (by omega))
  have eG : gs (va_up kd x 0) (va_up sr x b) x = gs kd sr x := gs_cg x (fun y hy => ⟨up_n (by omega), up_n (by omega)⟩)
  have eP1 : pn (va_up kd x 0) (x + 1) = pn kd x + 1 := by rw [pn, up_s, if_pos rfl, eP]
  have eG1 : (gs (va_up kd x 0) (va_up sr x b) (x + 1)).2 = (gs kd sr x).2 := by
    rw [gs, up_s, if_pos rfl, eG]
    split <;> rfl
  refine ⟨by rw [eP1], h2, hE, by rw [eP1]; exact hR.fin, by rw [eG1]; exact h5, h6.keep ha⟩
theorem rB_ok (hT : TX t n tt) (hfu : 100 ≤ fu) {kd : Nat → Nat} {sr : Nat → Bool} {x : Nat} {S : Nat → SS} {en : Int64} {bh rd : Nat → Int64} (hq : pn kd x ≤ 39) (hE : EB kd sr x en bh) (hR : RDc (pn kd x) S (fun _ => false) rd) {k : Nat} (hk : k < n) :
    ∃ en' bh' rd', f_Reader_readByte fu (nI k) (-1) (nI n) tt (nI (pn kd x)) en bh rd = some (nI (k + 1), -1, nI (pn kd x + 1), en', bh', rd') ∧ EB (va_up kd x 0) (va_up sr x false) (x + 1) en' bh' ∧ RDc (pn kd x) S (one_ (t k)) rd' := by
  have hn := hT.1
  obtain ⟨-, l1, l2⟩ := hT.2 k hk
  obtain ⟨en', bh', p1, p2⟩ := ap_ok hq hfu hE false
  have hp0 : f_Glob_addPiece fu 0 (nI (pn kd x)) en bh = some (nI (pn kd x + 1), en', bh') := p1
  obtain ⟨rd', g1, g2⟩ := srR (c1 := t k) (c2 := t k) hq l1 (Nat.le_refl _) l2 hfu hR true
  have g1' : f_Reader_setReads fu (nI (t k)) (nI (t k)) 1 (nI (pn kd x + 1)) rd = some rd' := g1
  have c1 := chC hT (show k < 1000 by omega)
  rw [ch_in hk] at c1
  have hne : ¬ nI (t k) = 0 := nI_ne0 (by omega) (by omega)
  refine ⟨en', bh', rd', ?_, p2, g2⟩
  unfold f_Reader_readByte
  rw [c1, ob, ifF hne, hp0, ob]
  dsimp only
  rw [g1', ob, ifF hne, ps1]
  rfl
theorem rB_bad (hT : TX t n tt) {en : Int64} {bh rd : Nat → Int64} {pc : Int32} {k : Nat} (hk : n ≤ k) (hk2 : k < 1000) : f_Reader_readByte fu (nI k) (-1) (nI n) tt pc en bh rd = some (nI k, nI k, pc, en, bh, rd) := by
  have c1 := chC hT hk2
  have e0 : chr_ t n k = 0 := if_neg (by omega)
  rw [e0] at c1
  unfold f_Reader_readByte
  rw [c1, ob, ifT (show nI 0 = 0 from rfl), ifT (show nI 0 = 0 from rfl), ps0]
  rfl
theorem aS_ok (hfu : 100 ≤ fu) {kd : Nat → Nat} {sr : Nat → Bool} {x : Nat} {S : Nat → SS} {en : Int64} {bh rd : Nat → Int64} (hq : pn kd x ≤ 39) (hE : EB kd sr x en bh) (hR : RDc (pn kd x) S (fun _ => false) rd) (b : Bool) :
    ∃ en' bh' rd', f_Reader_addAnyButSlash fu (if b = true then 1 else 0) (nI (pn kd x)) en bh rd = some (nI (pn kd x + 1), en', bh', rd') ∧ EB (va_up kd x 0) (va_up sr x b) (x + 1) en' bh' ∧ RDc (pn kd x) S nosl rd' := by
  obtain ⟨en', bh', p1, p2⟩ := ap_ok hq hfu hE b
  obtain ⟨rd1, g1, g2⟩ := sr_all hq hfu hR
  obtain ⟨rd2, g3, g4⟩ := sr_slash hq hfu g2
  refine ⟨en', bh', rd2, ?_, p2, g4⟩
  unfold f_Reader_addAnyButSlash
  rw [p1, ob]
  dsimp only
  rw [g1, ob, g3, ob]
theorem gs_1 {kd : Nat → Nat} {sr : Nat → Bool} {x : Nat} {b : Bool} : gs (va_up kd x 1) (va_up sr x b) (x + 1) = ((gs kd sr x).1, ((gs kd sr x).1, fun _ => False) :: (gs kd sr x).2) := by
  rw [gs, up_s, if_neg (by decide), if_pos rfl, gs_cg (kd' := kd) (sr' := sr) x (fun y hy => ⟨up_n (by omega), up_n (by omega)⟩)]
theorem gs_2 {kd : Nat → Nat} {sr : Nat → Bool} {x : Nat} {b : Bool} {B O : Nat → Prop} {r : List ((Nat → Prop) × (Nat → Prop))} (h : (gs kd sr x).2 = (B, O) :: r) : gs (va_up kd x 2) (va_up sr x b) (x + 1) = (B, (B, fun s => O s ∨ (gs kd sr x).1 s) :: r) := by
  rw [gs, up_s, if_neg (by decide), if_neg (by decide), if_pos rfl, gs_cg (kd' := kd) (sr' := sr) x (fun y hy => ⟨up_n (by omega), up_n (by omega)⟩), h]
theorem gs_3 {kd : Nat → Nat} {sr : Nat → Bool} {x : Nat} {b : Bool} {B O : Nat → Prop} {r : List ((Nat → Prop) × (Nat → Prop))} (h : (gs kd sr x).2 = (B, O) :: r) : gs (va_up kd x 3) (va_up sr x b) (x + 1) = (fun s => (gs kd sr x).1 s ∨ O s, r) := by
  rw [gs, up_s, if_neg (by decide), if_neg (by decide), if_neg (by decide), if_pos rfl, gs_cg (kd' := kd) (sr' := sr) x (fun y hy => ⟨up_n (by omega), up_n (by omega)⟩), h]
theorem pn_k {kd : Nat → Nat} {x k : Nat} (hk : ¬ k = 0) : pn (va_up kd x k) (x + 1) = pn kd x := by
  rw [pn, up_s, if_neg hk, pn_cg (kd' := kd) x (fun y hy => up_n (by omega))]
/-- the class's reader after a unit -/
def RCu (x : Nat) (kd : Nat → Nat) (sr : Nat → Bool) (S : Nat → SS) (lr : List Nat) (u : Nat × Bool × SS × Nat) (pc dp : Int32) (en : Int64) (bh rd eb er : Nat → Int64) (rc : Nat → Int32) : Prop :=
  RCl u.2.2.2 (x + 1) (va_up kd x u.1) (va_up sr x u.2.1) (if u.1 = 0 then va_up S (pn kd x) u.2.2.1 else S) (if u.1 = 1 then x :: lr else if u.1 = 2 then x :: lr.tail else if u.1 = 3 then lr.tail else lr) pc dp en bh rd eb er rc
theorem uC_ok (hT : TX t n tt) (hfu : 100 ≤ fu) {a x : Nat} {kd : Nat → Nat} {sr : Nat → Bool} {S : Nat → SS} {lr : List Nat} {pc dp : Int32} {en : Int64} {bh rd eb er : Nat → Int64} {rc : Nat → Int32} (hW : WS n a x kd lr) (ha : a < n) (hR : RCl a x kd sr S lr pc dp en bh rd eb er rc) :
    (∀ j, un t n a lr.length (decide (kd (lr.headD 0) = 2)) = .inl j → ∃ y pc' dp' en' bh' rd' eb' er' rc', f_Reader_readPart fu (nI a) (-1) (nI n) tt pc dp en bh rd eb er rc = some (y, nI j, pc', dp', en', bh', rd', eb', er', rc')) ∧
    ∀ u, un t n a lr.length (decide (kd (lr.headD 0) = 2)) = .inr u → ∃ pc' dp' en' bh' rd' eb' er' rc', f_Reader_readPart fu (nI a) (-1) (nI n) tt pc dp en bh rd eb er rc = some (nI u.2.2.2, -1, pc', dp', en', bh', rd', eb', er', rc') ∧ RCu x kd sr S lr u pc' dp' en' bh' rd' eb' er' rc' := by
  have hn := hT.1
  obtain ⟨w1, w2, w3, w4, w5, w6, w7⟩ := hW
  have hR0 := hR
  obtain ⟨h1, h2, h3, h4, h5, h6⟩ := hR
  subst h1 h2
  have hq : pn kd x ≤ 39 := by have := pn_le (kd := kd) x; omega
  have hlen : (gs kd sr x).2.length = lr.length := by rw [gs_len, ← w5.len]
  have c1 := chC hT (show a < 1000 by omega)
  rw [ch_in ha] at c1
  obtain ⟨-, l1, l2⟩ := hT.2 a ha
  have lit : ∀ l : Nat, l < 1000 → ¬ t a = l → ¬ nI (t a) = nI l := fun l hl h z => h ((nI_eq (by omega) (by omega)).mp z)
  unfold f_Reader_readPart
  rw [c1, ob]
  have fault : ∀ j, un t n a lr.length (decide (kd (lr.headD 0) = 2)) = .inl j → ∀ F : Option (Int32 × Int32 × Int32 × Int32 × Int64 × (Nat → Int64) × (Nat → Int64) × (Nat → Int64) × (Nat → Int64) × (Nat → Int32)), (∃ y pc' dp' en' bh' rd' eb' er' rc', F = some (y, nI j, pc', dp', en', bh', rd', eb', er', rc')) → (∀ j', un t n a lr.length (decide (kd (lr.headD 0) = 2)) = .inl j' → ∃ y pc' dp' en' bh' rd' eb' er' rc', F = some (y, nI j', pc', dp', en', bh', rd', eb', er', rc')) ∧ ∀ u, un t n a lr.length (decide (kd (lr.headD 0) = 2)) = .inr u → ∃ pc' dp' en' bh' rd' eb' er' rc', F = some (nI u.2.2.2, -1, pc', dp', en', bh', rd', eb', er', rc') ∧ RCu x kd sr S lr u pc' dp' en' bh' rd' eb' er' rc' := fun j hj F hF => by
    refine ⟨fun j' e => ?_, fun u e => ?_⟩
    · rw [hj] at e; cases e; exact hF
    · rw [hj] at e; cases e
  have good : ∀ u, un t n a lr.length (decide (kd (lr.headD 0) = 2)) = .inr u → ∀ F : Option (Int32 × Int32 × Int32 × Int32 × Int64 × (Nat → Int64) × (Nat → Int64) × (Nat → Int64) × (Nat → Int64) × (Nat → Int32)), (∃ pc' dp' en' bh' rd' eb' er' rc', F = some (nI u.2.2.2, -1, pc', dp', en', bh', rd', eb', er', rc') ∧ RCu x kd sr S lr u pc' dp' en' bh' rd' eb' er' rc') → (∀ j', un t n a lr.length (decide (kd (lr.headD 0) = 2)) = .inl j' → ∃ y pc' dp' en' bh' rd' eb' er' rc', F = some (y, nI j', pc', dp', en', bh', rd', eb', er', rc')) ∧ ∀ u, un t n a lr.length (decide (kd (lr.headD 0) = 2)) = .inr u → ∃ pc' dp' en' bh' rd' eb' er' rc', F = some (nI u.2.2.2, -1, pc', dp', en', bh', rd', eb', er', rc') ∧ RCu x kd sr S lr u pc' dp' en' bh' rd' eb' er' rc' := fun u hu F hF => by
    refine ⟨fun j' e => ?_, fun u' e => ?_⟩
    · rw [hu] at e; cases e
    · rw [hu] at e; cases e; exact hF
  by_cases q42 : t a = 42
  · rw [ifT (show nI (t a) = 42 by rw [q42]; rfl)]
    unfold f_Reader_readStars
    rw [ps1, ob]
    dsimp only
    have c2 := chC hT (show a + 1 < 1000 by omega)
    rw [c2, ob]
    by_cases h : chr_ t n (a + 1) = 42
    · have eu : un t n a lr.length (decide (kd (lr.headD 0) = 2)) = .inr (0, true, (fun _ => true), a + 2) := by
        unfold un
        rw [if_neg (by omega), if_neg (by omega), if_neg (by omega), if_neg (fun z => by omega), if_neg (by omega), if_neg (by omega), if_pos q42, if_pos h]
      refine good _ eu _ ?_
      obtain ⟨en', bh', p1, p2⟩ := ap_ok hq hfu h3 true
      have hp0 : f_Glob_addPiece fu 1 (nI (pn kd x)) en bh = some (nI (pn kd x + 1), en', bh') := p1
      obtain ⟨rd1, g1, g2⟩ := sr_all hq hfu h4
      rw [ifT (show nI (chr_ t n (a + 1)) = 42 by rw [h]; rfl), hp0, ob]
      dsimp only
      rw [g1, ob, ps1]
      exact ⟨_, _, _, _, _, _, _, _, rfl, hR0.piece (by first | exact Nat.le_add_right a 1 | exact Nat.le_add_right a 2) p2 g2⟩
    · have eu : un t n a lr.length (decide (kd (lr.headD 0) = 2)) = .inr (0, true, nosl, a + 1) := by
        unfold un
        rw [if_neg (by omega), if_neg (by omega), if_neg (by omega), if_neg (fun z => by omega), if_neg (by omega), if_neg (by omega), if_pos q42, if_neg h]
      refine good _ eu _ ?_
      have q2 : ¬ nI (chr_ t n (a + 1)) = 42 := fun z => h ((nI_eq (b := 42) (by have := ch_lt hT (a + 1); omega) (by omega)).mp z)
      obtain ⟨en', bh', rd', p1, p2, p3⟩ := aS_ok hfu hq h3 h4 true
      have hp0 : f_Reader_addAnyButSlash fu 1 (nI (pn kd x)) en bh rd = some (nI (pn kd x + 1), en', bh', rd') := p1
      rw [ifF q2, hp0]
      exact ⟨_, _, _, _, _, _, _, _, rfl, hR0.piece (by first | exact Nat.le_add_right a 1 | exact Nat.le_add_right a 2) p2 p3⟩
  · have n42 : ¬ nI (t a) = 42 := lit 42 (by omega) q42
    rw [ifF n42]
    by_cases q44 : t a = 44
    · rw [ifT (show nI (t a) = 44 by rw [q44]; rfl)]
      cases hl : lr with
      | nil =>
        rw [hl] at good fault
        have eu : un t n a ([] : List Nat).length (decide (kd (([] : List Nat).headD 0) = 2)) = .inr (0, false, one_ (t a), a + 1) := by
          unfold un
          rw [if_neg (by omega), if_neg (by omega), if_neg (by omega), if_neg (fun z => by have := z.2; simp at this), if_neg (by omega), if_neg (by omega), if_neg (by omega), if_neg (by omega)]
        refine good _ eu _ ?_
        have eB : f_Glob_beginRow (nI ([] : List Nat).length) en eb er rc = some (0, en, er, rc) := by
          unfold f_Glob_beginRow
          rw [ifF (show ¬ 0 ≤ nI ([] : List Nat).length - 1 by decide)]
          rfl
        rw [eB, ob]
        dsimp only
        obtain ⟨en', bh', rd', p1, p2, p3⟩ := rB_ok hT hfu hq h3 h4 ha
        rw [ifT rfl, p1]
        rw [hl] at hR0
        exact ⟨_, _, _, _, _, _, _, _, rfl, hR0.piece (by first | exact Nat.le_add_right a 1 | exact Nat.le_add_right a 2) p2 p3⟩
      | cons j r =>
        rw [hl] at good fault w6 h6 hlen
        have hr : r.length ≤ 1 := by simpa using w6
        have eu : un t n a (j :: r).length (decide (kd ((j :: r).headD 0) = 2)) = .inr (2, false, nosl, a + 1) := by
          unfold un
          rw [if_neg (by omega), if_neg (by omega), if_neg (by omega), if_pos ⟨q44, by simp⟩]
        refine good _ eu _ ?_
        cases hg : (gs kd sr x).2 with
        | nil => rw [hg] at hlen; simp at hlen
        | cons p rr =>
          obtain ⟨B, O⟩ := p
          rw [hg] at h5 hlen
          have hrr : rr.length = r.length := by simpa using hlen
          obtain ⟨g1, g2, g3⟩ := h5
          obtain ⟨k1, ⟨k, k2, k3, k4, k5⟩, k6⟩ := h6
          rw [hrr] at g1 g2
          have e1 : nI (j :: r).length - 1 = nI r.length := by show nI (r.length + 1) - 1 = nI r.length; exact pk_sub (b := 1) (by omega)
          have hin : inB (nI r.length) 2 = true := inB_nI (by omega) (by omega)
          have eB : f_Glob_beginRow (nI (j :: r).length) en eb er rc = some (1, eb r.length, vp_updL er r.length (er r.length ||| en), upd rc r.length (nI (k + 1))) := by
            unfold f_Glob_beginRow
            rw [e1, ifT (nI_pos' (by omega)), ifT hin, ifT hin, ifT hin, ifT hin, ifT hin, nI_clamp (by omega), k4, nI_1]
            rfl
          rw [eB, ob]
          dsimp only
          rw [ifF (by decide), ps1]
          refine ⟨_, _, _, _, _, _, _, _, rfl, ?_⟩
          have hgs := gs_2 (b := false) hg
          show RCl (a + 1) (x + 1) (va_up kd x 2) (va_up sr x false) S (x :: r) _ _ _ _ _ _ _ _
          refine ⟨by rw [pn_k (by decide)], rfl, ⟨fun i => ?_, EB_ends (by decide) h3.2⟩, by rw [pn_k (by decide)]; exact h4, ?_, ?_⟩
          · show lb (eb r.length) i = true ↔ (gs (va_up kd x 2) (va_up sr x false) (x + 1)).1 i
            rw [hgs]; exact g1 i
          · show GL _ _ (gs (va_up kd x 2) (va_up sr x false) (x + 1)).2
            rw [hgs]
            refine ⟨fun i => by rw [hrr]; exact g1 i, fun i => ?_, g3.up2 (by omega)⟩
            rw [hrr, pk_uLs, lb_or, Bool.or_eq_true, g2 i, h3.1 i]
          · exact ⟨by omega, ⟨k + 1, by omega, by show k + 1 ≤ a + 1 + 1; omega, pk_us, by rw [up_s]; exact ⟨fun _ => rfl, fun _ => by omega⟩⟩, k6.up (by show a ≤ a + 1; omega) (Nat.le_refl _)⟩
    · have n44 : ¬ nI (t a) = 44 := lit 44 (by omega) q44
      rw [ifF n44]
      by_cases q63 : t a = 63
      · have eu : un t n a lr.length (decide (kd (lr.headD 0) = 2)) = .inr (0, false, nosl, a + 1) := by
          unfold un
          rw [if_neg (by omega), if_neg (by omega), if_neg (by omega), if_neg (fun z => by omega), if_neg (by omega), if_pos q63]
        refine good _ eu _ ?_
        obtain ⟨en', bh', rd', p1, p2, p3⟩ := aS_ok hfu hq h3 h4 false
        have hp0 : f_Reader_addAnyButSlash fu 0 (nI (pn kd x)) en bh rd = some (nI (pn kd x + 1), en', bh', rd') := p1
        rw [ifT (show nI (t a) = 63 by rw [q63]; rfl), hp0, ob]
        dsimp only
        rw [ps1]
        exact ⟨_, _, _, _, _, _, _, _, rfl, hR0.piece (by first | exact Nat.le_add_right a 1 | exact Nat.le_add_right a 2) p2 p3⟩
      · have n63 : ¬ nI (t a) = 63 := lit 63 (by omega) q63
        rw [ifF n63]
        by_cases q91 : t a = 91
        · rw [ifT (show nI (t a) = 91 by rw [q91]; rfl)]
          obtain ⟨b1, b2⟩ := brC_ok hT hfu hq h3 h4 ha
          have eu0 : un t n a lr.length (decide (kd (lr.headD 0) = 2)) = (match br t n a with
              | .inl j => .inl j
              | .inr q => .inr (0, false, q.1, q.2)) := by
            unfold un
            rw [if_neg (by omega), if_neg (by omega), if_neg (by omega), if_neg (fun z => by omega), if_neg (by omega), if_neg (by omega), if_neg (by omega), if_pos q91]
            rfl
          cases hb : br t n a with
          | inl j =>
            rw [hb] at eu0
            obtain ⟨y, pc', en', bh', rd', e1⟩ := b1 j hb
            refine fault j eu0 _ ?_
            rw [e1]
            exact ⟨_, _, _, _, _, _, _, _, _, rfl⟩
          | inr u =>
            rw [hb] at eu0
            obtain ⟨en', bh', rd', e1, e2, e3⟩ := b2 u hb
            refine good _ eu0 _ ?_
            have := (br_ok (t := t) ha).2 u hb
            rw [e1]
            exact ⟨_, _, _, _, _, _, _, _, rfl, hR0.piece (by show a ≤ u.2; omega) e2 e3⟩
        · have n91 : ¬ nI (t a) = 91 := lit 91 (by omega) q91
          rw [ifF n91]
          by_cases q92 : t a = 92
          · rw [ifT (show nI (t a) = 92 by rw [q92]; rfl), ps1, ob]
            dsimp only
            by_cases h : a + 1 < n
            · have eu : un t n a lr.length (decide (kd (lr.headD 0) = 2)) = .inr (0, false, one_ (t (a + 1)), a + 2) := by
                unfold un
                rw [if_neg (by omega), if_neg (by omega), if_neg (by omega), if_neg (fun z => by omega), if_pos q92, if_pos h]
              refine good _ eu _ ?_
              obtain ⟨en', bh', rd', p1, p2, p3⟩ := rB_ok hT hfu hq h3 h4 h
              rw [p1]
              exact ⟨_, _, _, _, _, _, _, _, rfl, hR0.piece (by first | exact Nat.le_add_right a 1 | exact Nat.le_add_right a 2) p2 p3⟩
            · have eu : un t n a lr.length (decide (kd (lr.headD 0) = 2)) = .inl n := by
                unfold un
                rw [if_neg (by omega), if_neg (by omega), if_neg (by omega), if_neg (fun z => by omega), if_pos q92, if_neg h]
              refine fault n eu _ ?_
              have en1 : a + 1 = n := by omega
              rw [rB_bad hT (show n ≤ a + 1 by omega) (by omega), en1]
              exact ⟨_, _, _, _, _, _, _, _, _, rfl⟩
          · have n92 : ¬ nI (t a) = 92 := lit 92 (by omega) q92
            rw [ifF n92]
            by_cases q93 : t a = 93
            · have eu : un t n a lr.length (decide (kd (lr.headD 0) = 2)) = .inl a := by
                unfold un
                rw [if_neg (by omega), if_neg (by omega), if_pos q93]
              refine fault a eu _ ?_
              rw [ifT (show nI (t a) = 93 by rw [q93]; rfl), ps0]
              exact ⟨_, _, _, _, _, _, _, _, _, rfl⟩
            · have n93 : ¬ nI (t a) = 93 := lit 93 (by omega) q93
              rw [ifF n93]
              by_cases q123 : t a = 123
              · rw [ifT (show nI (t a) = 123 by rw [q123]; rfl)]
                by_cases h : lr.length < 2
                · have eu : un t n a lr.length (decide (kd (lr.headD 0) = 2)) = .inr (1, false, nosl, a + 1) := by
                    unfold un
                    rw [if_pos q123, if_pos h]
                  refine good _ eu _ ?_
                  have q2 : nI lr.length < (2 : Int32) := nI_lt (b := 2) h (by decide)
                  have hin : inB (nI lr.length) 2 = true := inB_nI h (by omega)
                  have eB : f_Glob_beginChoice (nI lr.length) en eb er rc = some (1, nI (lr.length + 1), vp_updL eb lr.length en, vp_updL er lr.length 0, upd rc lr.length 1) := by
                    unfold f_Glob_beginChoice
                    rw [ifT q2, ifT hin, ifT hin, ifT hin, nI_clamp (by omega), nI_1]
                    rfl
                  rw [eB, ob]
                  dsimp only
                  rw [ps1]
                  refine ⟨_, _, _, _, _, _, _, _, rfl, ?_⟩
                  have hgs := gs_1 (kd := kd) (sr := sr) (x := x) (b := false)
                  show RCl (a + 1) (x + 1) (va_up kd x 1) (va_up sr x false) S (x :: lr) _ _ _ _ _ _ _ _
                  refine ⟨by rw [pn_k (by decide)], rfl, ⟨fun i => ?_, EB_ends (by decide) h3.2⟩, by rw [pn_k (by decide)]; exact h4, ?_, ?_⟩
                  · show lb en i = true ↔ (gs (va_up kd x 1) (va_up sr x false) (x + 1)).1 i
                    rw [hgs]; exact h3.1 i
                  · show GL _ _ (gs (va_up kd x 1) (va_up sr x false) (x + 1)).2
                    rw [hgs]
                    refine ⟨fun i => ?_, fun i => ?_, h5.up (by omega)⟩
                    · rw [hlen, pk_uLs]; exact h3.1 i
                    · rw [hlen, pk_uLs, lb_0]; exact ⟨fun z => (by cases z), fun z => z.elim⟩
                  · exact ⟨by omega, ⟨1, Nat.le_refl _, by omega, pk_us, by rw [up_s]; exact ⟨fun z => by omega, fun z => by omega⟩⟩, h6.up (by show a ≤ a + 1; omega) (Nat.le_refl _)⟩
                · have eu : un t n a lr.length (decide (kd (lr.headD 0) = 2)) = .inl a := by
                    unfold un
                    rw [if_pos q123, if_neg h]
                  refine fault a eu _ ?_
                  have e2 : lr.length = 2 := by omega
                  have eB : f_Glob_beginChoice (nI lr.length) en eb er rc = some (0, nI lr.length, eb, er, rc) := by
                    unfold f_Glob_beginChoice
                    rw [e2]
                    rfl
                  rw [eB, ob]
                  dsimp only
                  rw [ps0]
                  exact ⟨_, _, _, _, _, _, _, _, _, rfl⟩
              · have n123 : ¬ nI (t a) = 123 := lit 123 (by omega) q123
                rw [ifF n123]
                by_cases q125 : t a = 125
                · rw [ifT (show nI (t a) = 125 by rw [q125]; rfl)]
                  have un125 : un t n a lr.length (decide (kd (lr.headD 0) = 2)) = if 0 < lr.length ∧ decide (kd (lr.headD 0) = 2) = true then .inr (3, false, nosl, a + 1) else .inl a := by
                    unfold un
                    rw [if_neg (by omega), if_pos q125]
                  cases hl : lr with
                  | nil =>
                    rw [hl] at good fault un125
                    have eu : un t n a ([] : List Nat).length (decide (kd (([] : List Nat).headD 0) = 2)) = .inl a := by
                      rw [un125, if_neg (fun z => by have := z.1; simp at this)]
                    refine fault a eu _ ?_
                    have eB : f_Glob_endChoice (nI ([] : List Nat).length) en er rc = some (0, nI ([] : List Nat).length, en) := by
                      unfold f_Glob_endChoice
                      rw [ifT (show nI ([] : List Nat).length - 1 < 0 by decide)]
                      rfl
                    rw [eB, ob]
                    dsimp only
                    rw [ps0]
                    exact ⟨_, _, _, _, _, _, _, _, _, rfl⟩
                  | cons j r =>
                    rw [hl] at good fault w6 h6 hlen un125
                    have hr : r.length ≤ 1 := by simpa using w6
                    have e1 : nI (j :: r).length - 1 = nI r.length := by show nI (r.length + 1) - 1 = nI r.length; exact pk_sub (b := 1) (by omega)
                    have hin : inB (nI r.length) 2 = true := inB_nI (by omega) (by omega)
                    obtain ⟨k1, ⟨k, k2, k3, k4, k5⟩, k6⟩ := h6
                    by_cases hk : kd j = 2
                    · have eu : un t n a (j :: r).length (decide (kd ((j :: r).headD 0) = 2)) = .inr (3, false, nosl, a + 1) := by
                        rw [un125, if_pos ⟨by simp, decide_eq_true hk⟩]
                      refine good _ eu _ ?_
                      cases hg : (gs kd sr x).2 with
                      | nil => rw [hg] at hlen; simp at hlen
                      | cons p rr =>
                        obtain ⟨B, O⟩ := p
                        rw [hg] at h5 hlen
                        have hrr : rr.length = r.length := by simpa using hlen
                        obtain ⟨g1, g2, g3⟩ := h5
                        rw [hrr] at g1 g2
                        have q2 : (2 : Int32) ≤ nI k := nI_le (a := 2) (k5.mpr hk) (by omega)
                        have eB : f_Glob_endChoice (nI (j :: r).length) en er rc = some (1, nI r.length, en ||| er r.length) := by
                          unfold f_Glob_endChoice
                          rw [e1, ifF (nI_pos (by omega)), ifT hin, nI_clamp (by omega), k4, ifT q2, ifT hin]
                          rfl
                        rw [eB, ob]
                        dsimp only
                        rw [ps1]
                        refine ⟨_, _, _, _, _, _, _, _, rfl, ?_⟩
                        have hgs := gs_3 (b := false) hg
                        show RCl (a + 1) (x + 1) (va_up kd x 3) (va_up sr x false) S r _ _ _ _ _ _ _ _
                        refine ⟨by rw [pn_k (by decide)], rfl, ⟨fun i => ?_, EB_ends (by decide) h3.2⟩, by rw [pn_k (by decide)]; exact h4, ?_, k6.keep (by show a ≤ a + 1; omega)⟩
                        · show lb (en ||| er r.length) i = true ↔ (gs (va_up kd x 3) (va_up sr x false) (x + 1)).1 i
                          rw [hgs, lb_or, Bool.or_eq_true, h3.1 i, g2 i]
                        · show GL _ _ (gs (va_up kd x 3) (va_up sr x false) (x + 1)).2
                          rw [hgs]; exact g3
                    · have eu : un t n a (j :: r).length (decide (kd ((j :: r).headD 0) = 2)) = .inl a := by
                        rw [un125, if_neg (fun z => hk (of_decide_eq_true z.2))]
                      refine fault a eu _ ?_
                      have q2 : ¬ (2 : Int32) ≤ nI k := nI_ge (b := 2) (Nat.lt_of_not_le (fun z => hk (k5.mp z))) (by decide)
                      have eB : f_Glob_endChoice (nI (j :: r).length) en er rc = some (0, nI (j :: r).length, en) := by
                        unfold f_Glob_endChoice
                        rw [e1, ifF (nI_pos (by omega)), ifT hin, nI_clamp (by omega), k4, ifF q2]
                        rfl
                      rw [eB, ob]
                      dsimp only
                      rw [ps0]
                      exact ⟨_, _, _, _, _, _, _, _, _, rfl⟩
                · have n125 : ¬ nI (t a) = 125 := lit 125 (by omega) q125
                  have eu : un t n a lr.length (decide (kd (lr.headD 0) = 2)) = .inr (0, false, one_ (t a), a + 1) := by
                    unfold un
                    rw [if_neg (by omega), if_neg (by omega), if_neg (by omega), if_neg (fun z => by omega), if_neg (by omega), if_neg (by omega), if_neg (by omega), if_neg (by omega)]
                  refine good _ eu _ ?_
                  rw [ifF n125]
                  obtain ⟨en', bh', rd', p1, p2, p3⟩ := rB_ok hT hfu hq h3 h4 ha
                  rw [p1]
                  exact ⟨_, _, _, _, _, _, _, _, rfl, hR0.piece (by first | exact Nat.le_add_right a 1 | exact Nat.le_add_right a 2) p2 p3⟩
end UC
