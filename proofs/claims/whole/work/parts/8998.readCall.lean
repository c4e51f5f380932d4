/-! the class reads a glob: the whole text -/
section RCA
variable {t : Nat → Nat} {n fu : Nat} {tt : Nat → Int32}
theorem rdC_loop (hT : TX t n tt) (hfu : 100 ≤ fu) (kk : Int32 → Int32 → Int32 → Int32 → Int32 → Int64 → (Nat → Int64) → (Nat → Int64) → (Nat → Int64) → (Nat → Int64) → (Nat → Int32) → Option (Int32 × Int32 × Int32 × Int32 × Int32 × Int64 × (Nat → Int64) × (Nat → Int64) × (Nat → Int64) × (Nat → Int64) × (Nat → Int32))) : ∀ (g p a x f : Nat) (kd : Nat → Nat) (sr : Nat → Bool) (S : Nat → SS) (lr : List Nat) (pc dp : Int32) (en : Int64) (bh rd eb er : Nat → Int64) (rc : Nat → Int32), n ≤ a + g → p ≤ a → g + 1 < f → WS n a x kd lr → RCl a x kd sr S lr pc dp en bh rd eb er rc →
    (∀ j, pz t n g (a, x, kd, sr, S, lr) = .inl j → ∃ y1 y2 pc' dp' en' bh' rd' eb' er' rc', f_Reader_read_L27 (nI n) tt fu kk f (nI p) (nI a) (-1) pc dp en bh rd eb er rc = kk y1 y2 (nI j) pc' dp' en' bh' rd' eb' er' rc' ∧ j ≤ n) ∧
    ∀ a' x' kd' sr' S' lr', pz t n g (a, x, kd, sr, S, lr) = .inr (a', x', kd', sr', S', lr') → ∃ y1 y2 pc' dp' en' bh' rd' eb' er' rc', f_Reader_read_L27 (nI n) tt fu kk f (nI p) (nI a) (-1) pc dp en bh rd eb er rc = kk y1 y2 (-1) pc' dp' en' bh' rd' eb' er' rc' ∧ WS n a' x' kd' lr' ∧ RCl a' x' kd' sr' S' lr' pc' dp' en' bh' rd' eb' er' rc' := by
  intro g
  have hn := hT.1
  have done : ∀ (p a f : Nat) (fa pc dp : Int32) (en : Int64) (bh rd eb er : Nat → Int64) (rc : Nat → Int32), n ≤ a → a < 1000 → f_Reader_read_L27 (nI n) tt fu kk (f + 1) (nI p) (nI a) fa pc dp en bh rd eb er rc = kk (nI p) (nI a) fa pc dp en bh rd eb er rc := fun p a f fa pc dp en bh rd eb er rc h h2 => by
    rw [f_Reader_read_L27_s]
    by_cases z : nI n ≤ nI p
    · exact ifT z
    · exact (ifF z).trans (ifT (nI_le h (by omega)))
  induction g with
  | zero =>
    intro p a x f kd sr S lr pc dp en bh rd eb er rc h1 h2 h3 hW hR
    obtain ⟨f, rfl⟩ : ∃ g, f = g + 1 := ⟨f - 1, by omega⟩
    refine ⟨fun j e => (by cases e), fun a' x' kd' sr' S' lr' e => ?_⟩
    cases e
    have := hW.2.1
    exact ⟨_, _, _, _, _, _, _, _, _, _, done p a f (-1) pc dp en bh rd eb er rc (by omega) (by omega), hW, hR⟩
  | succ g ih =>
    intro p a x f kd sr S lr pc dp en bh rd eb er rc h1 h2 h3 hW hR
    obtain ⟨f, rfl⟩ : ∃ g, f = g + 1 := ⟨f - 1, by omega⟩
    have han := hW.2.1
    by_cases ha : a < n
    · rw [pz, if_pos ha]
      obtain ⟨u1, u2⟩ := uC_ok hT hfu hW ha hR
      obtain ⟨o1, o2⟩ := un_ok (t := t) (dp := lr.length) (rw_ := decide (kd (lr.headD 0) = 2)) ha
      rw [f_Reader_read_L27_s, ifF (nI_ge (by omega) (by omega)), ifF (nI_ge ha (by omega)), ifT rfl]
      cases hu : un t n a lr.length (decide (kd (lr.headD 0) = 2)) with
      | inl j =>
        refine ⟨fun j' e => ?_, fun a' x' kd' sr' S' lr' e => (by cases e)⟩
        cases e
        have hj := o1 j hu
        obtain ⟨y, pc', dp', en', bh', rd', eb', er', rc', e1⟩ := u1 j hu
        rw [e1, ob]
        obtain ⟨f', rfl⟩ : ∃ g, f = g + 1 := ⟨f - 1, by omega⟩
        refine ⟨nI p + 1, y, pc', dp', en', bh', rd', eb', er', rc', ?_, hj⟩
        show f_Reader_read_L27 (nI n) tt fu kk (f' + 1) (nI p + 1) y (nI j) pc' dp' en' bh' rd' eb' er' rc' = _
        rw [f_Reader_read_L27_s]
        by_cases z : nI n ≤ nI p + 1
        · exact ifT z
        · by_cases z2 : nI n ≤ y
          · exact (ifF z).trans (ifT z2)
          · exact (ifF z).trans ((ifF z2).trans (ifF (nI_nm1 (by omega))))
      | inr u =>
        obtain ⟨pc', dp', en', bh', rd', eb', er', rc', e1, e2⟩ := u2 u hu
        obtain ⟨v1, v2, v3, v4, v5, v6⟩ := o2 u hu
        have hW' := hW.step v1 v2 v3 v4 v5 (fun z => (v6 z).1)
        obtain ⟨i1, i2⟩ := ih (p + 1) u.2.2.2 (x + 1) f (va_up kd x u.1) (va_up sr x u.2.1) (if u.1 = 0 then va_up S (pn kd x) u.2.2.1 else S) (if u.1 = 1 then x :: lr else if u.1 = 2 then x :: lr.tail else if u.1 = 3 then lr.tail else lr) pc' dp' en' bh' rd' eb' er' rc' (by omega) (by omega) (by omega) hW' e2
        rw [e1, ob]
        have hL : f_Reader_read_L27 (nI n) tt fu kk f (nI p + 1) (nI u.2.2.2) (-1) pc' dp' en' bh' rd' eb' er' rc' = f_Reader_read_L27 (nI n) tt fu kk f (nI (p + 1)) (nI u.2.2.2) (-1) pc' dp' en' bh' rd' eb' er' rc' := by rw [nI_1]
        refine ⟨fun j e => ?_, fun a' x' kd' sr' S' lr' e => ?_⟩
        · obtain ⟨y1, y2, pc2, dp2, en2, bh2, rd2, eb2, er2, rc2, e3, e4⟩ := i1 j e
          exact ⟨y1, y2, pc2, dp2, en2, bh2, rd2, eb2, er2, rc2, hL.trans e3, e4⟩
        · obtain ⟨y1, y2, pc2, dp2, en2, bh2, rd2, eb2, er2, rc2, e3, e4⟩ := i2 a' x' kd' sr' S' lr' e
          exact ⟨y1, y2, pc2, dp2, en2, bh2, rd2, eb2, er2, rc2, hL.trans e3, e4⟩
    · rw [pz, if_neg ha]
      refine ⟨fun j e => (by cases e), fun a' x' kd' sr' S' lr' e => ?_⟩
      cases e
      exact ⟨_, _, _, _, _, _, _, _, _, _, done p a f (-1) pc dp en bh rd eb er rc (by omega) (by omega), hW, hR⟩
/-- reading on the class's side -/
theorem rdC_ok (hT : TX t n tt) (hfu : 200 ≤ fu) (bh0 rd0 eb0 er0 : Nat → Int64) (rc0 : Nat → Int32) :
    (∀ j, parse t n = .inl j → ∃ y1 y2 pc dp en bh rd eb er rc, f_Reader_read fu (nI n) tt bh0 rd0 eb0 er0 rc0 = some (nI j, y1, y2, pc, dp, en, bh, rd, eb, er, rc) ∧ j ≤ n) ∧
    ∀ a x kd sr S lr, parse t n = .inr (a, x, kd, sr, S, lr) → ∃ y1 pc dp en bh rd eb er rc, f_Reader_read fu (nI n) tt bh0 rd0 eb0 er0 rc0 = some (-1, y1, -1, pc, dp, en, bh, rd, eb, er, rc) ∧ WS n a x kd [] ∧ lr = [] ∧ RCl a x kd sr S [] pc dp en bh rd eb er rc := by
  have hn := hT.1
  obtain ⟨bh1, f1, f2, f3⟩ := fillJ_ok (N := 41) (fu := fu) (by omega) (by omega) 0 bh0
  obtain ⟨rd1, f4, f5, f6⟩ := fillJ_ok (N := 95) (fu := fu) (by omega) (by omega) 0 rd0
  have hR0 : RCl 0 0 (fun _ => 4) (fun _ => false) (fun _ _ => false) [] 0 0 1 bh1 rd1 eb0 er0 rc0 := by
    refine ⟨rfl, rfl, ⟨fun i => ?_, fun s hs i => ?_⟩, fun s hs i => ?_, trivial, trivial⟩
    · rw [lb_1, decide_eq_true_eq]; rfl
    · rw [f2 s hs, lb_0]
      exact ⟨fun z => (by cases z), fun ⟨z, z1, _⟩ => absurd z1 (Nat.not_lt_zero _)⟩
    · rw [f5 s hs, lb_0]
      refine ⟨fun z => (by cases z), ?_⟩
      rintro (⟨z, z1, _⟩ | ⟨_, z⟩)
      · exact absurd z1 (Nat.not_lt_zero _)
      · cases z
  obtain ⟨m1, m2⟩ := rdC_loop hT (by omega : 100 ≤ fu) (fun l2_27 rr_at_27 rr_fault_27 gg_pieceCount_27 gg_depth_27 gg_ends_27 gg_behind_27 gg_readersOf_27 gg_endsBefore_27 gg_endsOfRows_27 gg_rowCount_27 => (f_Reader_read_J58 (nI n) rr_at_27 rr_fault_27 gg_pieceCount_27 gg_depth_27 gg_ends_27 gg_behind_27 gg_readersOf_27 gg_endsBefore_27 gg_endsOfRows_27 gg_rowCount_27)) n 0 0 0 fu _ _ _ _ _ _ _ _ _ _ _ _ (by omega) (by omega) (by omega) (WS0 n) hR0
  have eR : f_Reader_read fu (nI n) tt bh0 rd0 eb0 er0 rc0 = f_Reader_read_L27 (nI n) tt fu (fun l2_27 rr_at_27 rr_fault_27 gg_pieceCount_27 gg_depth_27 gg_ends_27 gg_behind_27 gg_readersOf_27 gg_endsBefore_27 gg_endsOfRows_27 gg_rowCount_27 => (f_Reader_read_J58 (nI n) rr_at_27 rr_fault_27 gg_pieceCount_27 gg_depth_27 gg_ends_27 gg_behind_27 gg_readersOf_27 gg_endsBefore_27 gg_endsOfRows_27 gg_rowCount_27)) fu (nI 0) (nI 0) (-1) 0 0 1 bh1 rd1 eb0 er0 rc0 := by
    unfold f_Reader_read f_Glob_clear
    rw [f1, ob, f4, ob, ob]
    rfl
  rw [eR]
  unfold parse
  cases hp : pz t n n st0 with
  | inl k =>
    refine ⟨fun j e => ?_, fun a x kd sr S lr e => (by cases e)⟩
    cases e
    obtain ⟨y1, y2, pc, dp, en, bh, rd, eb, er, rc, e1, e2⟩ := m1 k hp
    refine ⟨y2, nI k, pc, dp, en, bh, rd, eb, er, rc, Eq.trans e1 ?_, e2⟩
    show f_Reader_read_J58 (nI n) y2 (nI k) pc dp en bh rd eb er rc = _
    unfold f_Reader_read_J58
    rw [ifF (nI_nm1 (by omega))]
  | inr st =>
    obtain ⟨a', x', kd', sr', S', lr'⟩ := st
    obtain ⟨y1, y2, pc, dp, en, bh, rd, eb, er, rc, e1, e2, e3⟩ := m2 a' x' kd' sr' S' lr' hp
    have hdp : dp = nI lr'.length := e3.2.1
    have hl2 : lr'.length ≤ 2 := e2.2.2.2.2.2.1
    by_cases hc : n = 0 ∨ ¬ lr' = []
    · have ec : (if n = 0 ∨ ¬ (a', x', kd', sr', S', lr').2.2.2.2.2 = [] then (.inl n : Nat ⊕ PS) else .inr (a', x', kd', sr', S', lr')) = .inl n := if_pos hc
      refine ⟨fun j e => ?_, fun a x kd sr S lr e => ?_⟩
      · have e' := ec.symm.trans e
        cases e'
        refine ⟨y2, nI n, pc, dp, en, bh, rd, eb, er, rc, Eq.trans e1 ?_, Nat.le_refl _⟩
        show f_Reader_read_J58 (nI n) y2 (-1) pc dp en bh rd eb er rc = _
        unfold f_Reader_read_J58
        rw [ifT rfl]
        by_cases z : n = 0
        · subst z; exact ifT rfl
        · rw [ifF (nI_ne0 (by omega) (by omega))]
          have hne : 1 ≤ lr'.length := by
            rcases hc with hc | hc
            · exact absurd hc z
            · cases hl : lr' with
              | nil => exact absurd hl hc
              | cons j r => simp
          have eI : f_Glob_isInChoice dp = some 1 := by
            unfold f_Glob_isInChoice
            have q0' : ¬ nI lr'.length ≤ 0 := nI_ge (a := 0) (by omega) (by omega)
            rw [hdp, ifF q0']
            rfl
          rw [eI]
          rfl
      · have e' := ec.symm.trans e
        cases e'
    · have ec : (if n = 0 ∨ ¬ (a', x', kd', sr', S', lr').2.2.2.2.2 = [] then (.inl n : Nat ⊕ PS) else .inr (a', x', kd', sr', S', lr')) = .inr (a', x', kd', sr', S', lr') := if_neg hc
      have hl : lr' = [] := Classical.byContradiction fun z => hc (Or.inr z)
      subst hl
      refine ⟨fun j e => ?_, fun a x kd sr S lr e => ?_⟩
      · have e' := ec.symm.trans e
        cases e'
      · have e' := ec.symm.trans e
        cases e'
        refine ⟨y2, pc, dp, en, bh, rd, eb, er, rc, Eq.trans e1 ?_, e2, rfl, e3⟩
        show f_Reader_read_J58 (nI n) y2 (-1) pc dp en bh rd eb er rc = _
        unfold f_Reader_read_J58
        have eI : f_Glob_isInChoice dp = some 0 := by rw [hdp]; rfl
        rw [ifT rfl, ifF (nI_ne0 (by have : ¬ n = 0 := fun z => hc (Or.inl z); omega) (by omega)), eI]
        rfl
end RCA
