/-! the class reads a glob: pieces, brackets -/
def TX (t : Nat → Nat) (n : Nat) (tt : Nat → Int32) : Prop := n ≤ 40 ∧ ∀ j, j < n → tt j = nI (t j) ∧ 33 ≤ t j ∧ t j ≤ 126
theorem okc_of : ∀ c, c < 127 → 33 ≤ c → okc (nI c) := by unfold okc; decide +kernel
theorem ch_lt {t : Nat → Nat} {n : Nat} {tt : Nat → Int32} (h : TX t n tt) (k : Nat) : chr_ t n k < 127 := by
  unfold chr_
  by_cases z : k < n
  · rw [if_pos z]; have := h.2 k z; omega
  · rw [if_neg z]; omega
theorem ch_in {t : Nat → Nat} {n k : Nat} (h : k < n) : chr_ t n k = t k := if_pos h
theorem chC {t : Nat → Nat} {n : Nat} {tt : Nat → Int32} (h : TX t n tt) {k : Nat} (hk : k < 1000) : f_Typed_characterAt (nI k) (nI n) tt = some (nI (chr_ t n k)) := by
  by_cases z : k < n
  · obtain ⟨e, h1, h2⟩ := h.2 k z
    rw [char_in h.1 z (by rw [e]; exact okc_of _ (by omega) h1), e, ch_in z]
  · unfold f_Typed_characterAt chr_
    have := h.1
    rw [ifF (nI_pos (by omega)), ifT (nI_le (by omega) (by omega)), if_neg z]
    rfl
theorem isElC : ∀ c, c < 127 → f_Reader_isElement (nI c) = some (if isEl c = true then 1 else 0) := by decide +kernel
theorem ps1 (a : Nat) (fa : Int32) : f_Reader_pass 1 (nI a) fa = some (nI (a + 1), fa) := by
  unfold f_Reader_pass
  rw [ifF (by decide), nI_1]
theorem ps0 (a : Nat) (fa : Int32) : f_Reader_pass 0 (nI a) fa = some (nI a, nI a) := rfl
theorem nI_nm1 {k : Nat} (h : k < 1000) : ¬ nI k = -1 := fun e => by
  have h1 : ¬ nI k < 0 := nI_pos (by omega)
  rw [e] at h1
  exact h1 (by decide)
theorem ob {α β : Type} (a : α) (F : α → Option β) : Option.bind (some a) F = F a := rfl
/-! addPiece -/
theorem ap_loop {q : Nat} (hq : q ≤ 39) {pb w : Int64} (kk : Int32 → (Nat → Int64) → Option (Int32 × Int64 × (Nat → Int64))) : ∀ (d p f : Nat) (bh : Nat → Int64), p + d = q + 2 → d < f → ∃ bh' : Nat → Int64, f_Glob_addPiece_L54 pb w (nI (q + 1)) kk f (nI p) bh = kk (nI (q + 2)) bh' ∧ ∀ s i, (lb (bh' s) i = true ↔ lb (bh s) i = true ∨ (p ≤ s ∧ s ≤ q + 1 ∧ lb w s = true ∧ lb pb i = true))
  | 0, p, f, bh, hd, hf => by
    obtain ⟨f, rfl⟩ : ∃ g, f = g + 1 := ⟨f - 1, by omega⟩
    have : p = q + 2 := by omega
    subst this
    rw [f_Glob_addPiece_L54_s, ifT (nI_lt (by omega) (by omega))]
    refine ⟨bh, rfl, fun s i => ⟨Or.inl, ?_⟩⟩
    rintro (h | ⟨h1, h2, -⟩)
    · exact h
    · omega
  | d + 1, p, f, bh, hd, hf => by
    obtain ⟨f, rfl⟩ : ∃ g, f = g + 1 := ⟨f - 1, by omega⟩
    have q1 : ¬ nI (q + 1) < nI p := fun z => by have := (nI_ltI (by omega) (by omega)).mp z; omega
    rw [f_Glob_addPiece_L54_s, ifF q1]
    by_cases h : lb w p = true
    · rw [ifF (fun z => by
          have := (lb_ushr1 w (show p < 64 by omega)).mp ((lg_cmp0 _ _).mp z)
          rw [h] at this; cases this), ifT (inB_nI (by omega) (by omega)), ifT (inB_nI (by omega) (by omega)), nI_clamp (by omega)]
      obtain ⟨bh', g1, g2⟩ := ap_loop hq kk d (p + 1) f (vp_updL bh p (bh p ||| pb)) (by omega) (by omega)
      refine ⟨bh', ?_, fun s i => (g2 s i).trans ?_⟩
      · show f_Glob_addPiece_L54 pb w (nI (q + 1)) kk f (nI p + 1) (vp_updL bh p (bh p ||| pb)) = _
        rw [nI_1]; exact g1
      · by_cases e : s = p
        · subst e
          rw [pk_uLs, lb_or, Bool.or_eq_true]
          constructor
          · rintro ((h1 | h1) | ⟨h1, -⟩)
            · exact Or.inl h1
            · exact Or.inr ⟨Nat.le_refl _, by omega, h, h1⟩
            · omega
          · rintro (h1 | ⟨-, -, -, h1⟩)
            · exact Or.inl (Or.inl h1)
            · exact Or.inl (Or.inr h1)
        · rw [pk_uLn e]
          exact or_congr Iff.rfl ⟨fun z => ⟨by omega, z.2⟩, fun z => ⟨by omega, z.2⟩⟩
    · rw [ifT ((lg_cmp0 _ _).mpr ((lb_ushr1 w (show p < 64 by omega)).mpr (ts_nt h)))]
      obtain ⟨bh', g1, g2⟩ := ap_loop hq kk d (p + 1) f bh (by omega) (by omega)
      refine ⟨bh', ?_, fun s i => (g2 s i).trans ?_⟩
      · show f_Glob_addPiece_L54 pb w (nI (q + 1)) kk f (nI p + 1) bh = _
        rw [nI_1]; exact g1
      · refine or_congr Iff.rfl ⟨fun z => ⟨by omega, z.2⟩, fun z => ⟨?_, z.2⟩⟩
        have : s ≠ p := fun e => h (e ▸ z.2.2.1)
        omega
/-- the sources that can end here, and what comes behind each -/
def EB (kd : Nat → Nat) (sr : Nat → Bool) (x : Nat) (en : Int64) (bh : Nat → Int64) : Prop := (∀ i, lb en i = true ↔ (gs kd sr x).1 i) ∧ ∀ s, s < 41 → ∀ i, lb (bh s) i = true ↔ ∃ z, z < x ∧ kd z = 0 ∧ i = pn kd z + 1 ∧ Ar kd sr z s
theorem EB_ends {kd : Nat → Nat} {sr : Nat → Bool} {x k : Nat} {b : Bool} {bh : Nat → Int64} (hk : ¬ k = 0) (h : ∀ s, s < 41 → ∀ i, lb (bh s) i = true ↔ ∃ z, z < x ∧ kd z = 0 ∧ i = pn kd z + 1 ∧ Ar kd sr z s) : ∀ s, s < 41 → ∀ i, lb (bh s) i = true ↔ ∃ z, z < x + 1 ∧ va_up kd x k z = 0 ∧ i = pn (va_up kd x k) z + 1 ∧ Ar (va_up kd x k) (va_up sr x b) z s := fun s hs i => by
  rw [h s hs i]
  constructor
  · rintro ⟨z, z1, z2, z3, z4⟩
    refine ⟨z, by omega, by rw [up_n (by omega)]; exact z2, by rw [pn_cg z (fun y hy => up_n (by omega))]; exact z3, ?_⟩
    exact (Ar_cg (fun y hy => ⟨up_n (by omega), up_n (by omega)⟩)).mpr z4
  · rintro ⟨z, z1, z2, z3, z4⟩
    have hz : z ≠ x := fun e => by rw [e, up_s] at z2; exact hk z2
    refine ⟨z, by omega, by rw [up_n (by omega)] at z2; exact z2, by rw [pn_cg z (fun y hy => up_n (by omega))] at z3; exact z3, ?_⟩
    exact (Ar_cg (fun y hy => ⟨up_n (by omega), up_n (by omega)⟩)).mp z4
theorem ap_ok {kd : Nat → Nat} {sr : Nat → Bool} {x fu : Nat} {en : Int64} {bh : Nat → Int64} (hq : pn kd x ≤ 39) (hfu : 100 ≤ fu) (h : EB kd sr x en bh) (b : Bool) : ∃ (en' : Int64) (bh' : Nat → Int64), f_Glob_addPiece fu (if b = true then 1 else 0) (nI (pn kd x)) en bh = some (nI (pn kd x + 1), en', bh') ∧ EB (va_up kd x 0) (va_up sr x b) (x + 1) en' bh' := by
  have hbd := (gs_bd (kd := kd) (sr := sr) x).1
  have eK : ∀ y, y < x → va_up kd x 0 y = kd y := fun y hy => up_n (by omega)
  have eR : ∀ y, y < x → va_up sr x b y = sr y := fun y hy => up_n (by omega)
  have eP : pn (va_up kd x 0) x = pn kd x := pn_cg x eK
  have eG : gs (va_up kd x 0) (va_up sr x b) x = gs kd sr x := gs_cg x (fun y hy => ⟨eK y hy, eR y hy⟩)
  have q41 : nI (pn kd x + 1) < (41 : Int32) := nI_lt (b := 41) (by omega) (by decide)
  -- before: the ends, and the piece itself if it repeats
  have key_ : ∀ w : Int64, (∀ i, lb w i = true ↔ (gs kd sr x).1 i ∨ (b = true ∧ i = pn kd x + 1)) → ∀ bh' : Nat → Int64, (∀ s i, lb (bh' s) i = true ↔ lb (bh s) i = true ∨ (0 ≤ s ∧ s ≤ pn kd x + 1 ∧ lb w s = true ∧ lb (jlshl 1 (nI (pn kd x + 1))) i = true)) → ∀ s, s < 41 → ∀ i, lb (bh' s) i = true ↔ ∃ z, z < x + 1 ∧ va_up kd x 0 z = 0 ∧ i = pn (va_up kd x 0) z + 1 ∧ Ar (va_up kd x 0) (va_up sr x b) z s := fun w hw bh' hb s hs i => by
    rw [hb s i, h.2 s hs i, hw s, lb_bit _ (by omega), decide_eq_true_eq]
    have hA : Ar (va_up kd x 0) (va_up sr x b) x s ↔ (gs kd sr x).1 s ∨ (b = true ∧ s = pn kd x + 1) := by
      unfold Ar
      rw [eG, up_s, up_s, eP]
      constructor
      · rintro (h1 | h1 | ⟨h1, -⟩)
        · exact Or.inl h1
        · exact Or.inr h1.2
        · cases h1
      · rintro (h1 | h1)
        · exact Or.inl h1
        · exact Or.inr (Or.inl ⟨rfl, h1⟩)
    constructor
    · rintro (⟨z, z1, z2, z3, z4⟩ | ⟨-, z2, z3, z4⟩)
      · refine ⟨z, by omega, by rw [up_n (by omega)]; exact z2, by rw [pn_cg z (fun y hy => up_n (by omega))]; exact z3, ?_⟩
        exact (Ar_cg (fun y hy => ⟨up_n (by omega), up_n (by omega)⟩)).mpr z4
      · exact ⟨x, by omega, up_s, by rw [eP]; exact z4, hA.mpr z3⟩
    · rintro ⟨z, z1, z2, z3, z4⟩
      by_cases e : z = x
      · subst e
        rw [eP] at z3
        have h5 := hA.mp z4
        refine Or.inr ⟨Nat.zero_le _, ?_, h5, z3⟩
        rcases h5 with h5 | h5
        · have := hbd s h5; omega
        · omega
      · refine Or.inl ⟨z, by omega, by rw [up_n (by omega)] at z2; exact z2, by rw [pn_cg z (fun y hy => up_n (by omega))] at z3; exact z3, ?_⟩
        exact (Ar_cg (fun y hy => ⟨up_n (by omega), up_n (by omega)⟩)).mp z4
  cases b with
  | false =>
    obtain ⟨bh', g1, g2⟩ := ap_loop hq (pb := jlshl 1 (nI (pn kd x + 1))) (w := en) (fun l6_54 gg_behind_54 => (if (0 : Int32) = 0 then some (nI (pn kd x + 1), jlshl 1 (nI (pn kd x + 1)), gg_behind_54) else some (nI (pn kd x + 1), en, gg_behind_54))) (pn kd x + 2) 0 fu bh (by omega) (by omega)
    refine ⟨jlshl 1 (nI (pn kd x + 1)), bh', ?_, fun i => ?_, key_ en (fun i => by rw [h.1 i]; exact ⟨Or.inl, fun z => z.elim id (fun z => by cases z.1)⟩) bh' g2⟩
    · unfold f_Glob_addPiece f_Glob_addPiece_J49
      rw [nI_1, ifT q41]
      exact g1
    · rw [lb_bit _ (by omega), decide_eq_true_eq, gs, up_s, if_pos rfl, if_neg (by rw [up_s]; decide), eP]
  | true =>
    obtain ⟨bh', g1, g2⟩ := ap_loop hq (pb := jlshl 1 (nI (pn kd x + 1))) (w := en ||| jlshl 1 (nI (pn kd x + 1))) (fun l6_54 gg_behind_54 => (if (1 : Int32) = 0 then some (nI (pn kd x + 1), jlshl 1 (nI (pn kd x + 1)), gg_behind_54) else some (nI (pn kd x + 1), en ||| jlshl 1 (nI (pn kd x + 1)), gg_behind_54))) (pn kd x + 2) 0 fu bh (by omega) (by omega)
    have hw : ∀ i, lb (en ||| jlshl 1 (nI (pn kd x + 1))) i = true ↔ (gs kd sr x).1 i ∨ i = pn kd x + 1 := fun i => by
      rw [lb_or, Bool.or_eq_true, h.1 i, lb_bit _ (by omega), decide_eq_true_eq]
    refine ⟨en ||| jlshl 1 (nI (pn kd x + 1)), bh', ?_, fun i => ?_, key_ _ (fun i => (hw i).trans ⟨fun z => z.imp id (fun z => ⟨rfl, z⟩), fun z => z.imp id (fun z => z.2)⟩) bh' g2⟩
    · unfold f_Glob_addPiece f_Glob_addPiece_J49
      rw [nI_1, ifT q41]
      exact g1
    · rw [hw i, gs, up_s, if_pos rfl, if_pos up_s, eG, eP]
/-! who reads what: q pieces whole, and the newest -/
def RDc (q : Nat) (S : Nat → SS) (cur : SS) (rd : Nat → Int64) : Prop := ∀ s, s < 95 → ∀ i, lb (rd s) i = true ↔ (∃ q', q' < q ∧ i = q' + 1 ∧ S q' s = true) ∨ (i = q + 1 ∧ cur s = true)
theorem RDc.cg {q : Nat} {S : Nat → SS} {cur cur' : SS} {rd : Nat → Int64} (h : RDc q S cur rd) (e : ∀ s, s < 95 → cur s = cur' s) : RDc q S cur' rd := fun s hs i => by rw [← e s hs]; exact h s hs i
theorem sr_loop {q lo hi : Nat} (hq : q ≤ 39) (hhi : hi ≤ 94) {S : Nat → SS} {cur : SS} (v : Bool) (kk : Int32 → (Nat → Int64) → Option (Nat → Int64)) : ∀ (d s f : Nat) (rd : Nat → Int64), s + d = hi + 1 → lo ≤ s → d < f → RDc q S (fun s' => if lo ≤ s' ∧ s' < s then v else cur s') rd → ∃ rd' x, f_Glob_setReads_L11 (nI (q + 1)) (nI hi) (if v = true then 1 else 0) kk f (nI s) rd = kk x rd' ∧ RDc q S (seti cur lo hi v) rd'
  | 0, s, f, rd, hd, hlo, hf, hR => by
    obtain ⟨f, rfl⟩ : ∃ g, f = g + 1 := ⟨f - 1, by omega⟩
    rw [f_Glob_setReads_L11_s, ifF (nI_pos (by omega)), ifT (nI_lt (by omega) (by omega))]
    refine ⟨rd, _, rfl, hR.cg (fun s' hs' => ?_)⟩
    unfold seti
    by_cases z : lo ≤ s' ∧ s' < s
    · rw [if_pos z, if_pos (by omega)]
    · rw [if_neg z, if_neg (by omega)]
  | d + 1, s, f, rd, hd, hlo, hf, hR => by
    obtain ⟨f, rfl⟩ : ∃ g, f = g + 1 := ⟨f - 1, by omega⟩
    have q1 : ¬ nI hi < nI s := fun z => by have := (nI_ltI (by omega) (by omega)).mp z; omega
    have q95 : ¬ (95 : Int32) ≤ nI s := nI_ge (b := 95) (by omega) (by decide)
    have hin : inB (nI s) 95 = true := inB_nI (by omega) (by omega)
    rw [f_Glob_setReads_L11_s, ifF (nI_pos (by omega)), ifF q1, ifF q95]
    have step : ∀ w : Int64, (∀ i, lb w i = true ↔ (lb (rd s) i = true ∧ ¬ i = q + 1) ∨ (i = q + 1 ∧ v = true)) → RDc q S (fun s' => if lo ≤ s' ∧ s' < s + 1 then v else cur s') (vp_updL rd s w) := fun w hw s' hs' i => by
      by_cases e : s' = s
      · subst e
        rw [pk_uLs, hw i, hR s' hs' i]
        show _ ↔ _ ∨ (i = q + 1 ∧ (if lo ≤ s' ∧ s' < s' + 1 then v else cur s') = true)
        rw [if_pos (by omega)]
        constructor
        · rintro (⟨h1 | h1, h2⟩ | h1)
          · exact Or.inl h1
          · exact absurd h1.1 h2
          · exact Or.inr h1
        · rintro (⟨q', h1, h2, h3⟩ | h1)
          · exact Or.inl ⟨Or.inl ⟨q', h1, h2, h3⟩, by omega⟩
          · exact Or.inr h1
      · rw [pk_uLn e, hR s' hs' i]
        show _ ∨ (i = q + 1 ∧ (if lo ≤ s' ∧ s' < s then v else cur s') = true) ↔ _ ∨ (i = q + 1 ∧ (if lo ≤ s' ∧ s' < s + 1 then v else cur s') = true)
        by_cases z : lo ≤ s' ∧ s' < s
        · rw [if_pos z, if_pos (by omega)]
        · rw [if_neg z, if_neg (by omega)]
    cases v with
    | true =>
      rw [ifF (show ¬ (if true = true then (1 : Int32) else 0) = 0 by decide), ifT hin, ifT hin, nI_clamp (by omega), nI_1]
      exact sr_loop hq hhi true kk d (s + 1) f _ (by omega) (by omega) (by omega) (step _ (fun i => by
        rw [lb_or, Bool.or_eq_true, lb_bit _ (by omega), decide_eq_true_eq]
        constructor
        · rintro (h1 | h1)
          · by_cases z : i = q + 1
            · exact Or.inr ⟨z, rfl⟩
            · exact Or.inl ⟨h1, z⟩
          · exact Or.inr ⟨h1, rfl⟩
        · rintro (h1 | h1)
          · exact Or.inl h1.1
          · exact Or.inr h1.1))
    | false =>
      rw [ifT (show (if false = true then (1 : Int32) else 0) = 0 from rfl), ifT hin, ifT hin, nI_clamp (by omega), nI_1]
      exact sr_loop hq hhi false kk d (s + 1) f _ (by omega) (by omega) (by omega) (step _ (fun i => by
        by_cases hi64 : i < 64
        · rw [lb_and, Bool.and_eq_true, lb_not hi64, lb_bit _ (by omega)]
          by_cases z : i = q + 1
          · simp [z]
          · simp [z]
        · rw [lb_and, lb_big (x := rd s) (by omega)]
          simp))
theorem sr_ok {q lo hi fu : Nat} (hq : q ≤ 39) (hhi : hi ≤ 94) (hlo : lo ≤ hi) (hfu : 100 ≤ fu) {S : Nat → SS} {cur : SS} {rd : Nat → Int64} (h : RDc q S cur rd) (v : Bool) : ∃ rd', f_Glob_setReads fu (nI lo) (nI hi) (if v = true then 1 else 0) (nI (q + 1)) rd = some rd' ∧ RDc q S (seti cur lo hi v) rd' := by
  obtain ⟨rd', x, g1, g2⟩ := sr_loop (lo := lo) hq hhi v (fun l6_11 gg_readersOf_11 => some gg_readersOf_11) (hi + 1 - lo) lo fu rd (by omega) (Nat.le_refl _) (by omega) (h.cg (fun s hs => by rw [if_neg (by omega)]))
  exact ⟨rd', g1, g2⟩
theorem srR {q c1 c2 fu : Nat} (hq : q ≤ 39) (h1 : 33 ≤ c1) (h2 : c1 ≤ c2) (h3 : c2 ≤ 126) (hfu : 100 ≤ fu) {S : Nat → SS} {cur : SS} {rd : Nat → Int64} (h : RDc q S cur rd) (v : Bool) : ∃ rd', f_Reader_setReads fu (nI c1) (nI c2) (if v = true then 1 else 0) (nI (q + 1)) rd = some rd' ∧ RDc q S (seti cur (c1 - 32) (c2 - 32) v) rd' := by
  obtain ⟨rd', g1, g2⟩ := sr_ok (lo := c1 - 32) (hi := c2 - 32) hq (by omega) (by omega) hfu h v
  refine ⟨rd', ?_, g2⟩
  unfold f_Reader_setReads
  rw [sym_eq (by omega), sym_eq (by omega), sy1 h1 (by omega), sy1 (by omega) h3]
  show Option.bind (f_Glob_setReads fu (nI (c1 - 32)) (nI (c2 - 32)) (if v = true then 1 else 0) (nI (q + 1)) rd) _ = _
  rw [g1]
  rfl
theorem sr_all {q fu : Nat} (hq : q ≤ 39) (hfu : 100 ≤ fu) {S : Nat → SS} {cur : SS} {rd : Nat → Int64} (h : RDc q S cur rd) : ∃ rd', f_Reader_setReadsAll fu (nI (q + 1)) rd = some rd' ∧ RDc q S (fun _ => true) rd' := by
  obtain ⟨rd', g1, g2⟩ := sr_ok (lo := 0) (hi := 94) hq (by omega) (by omega) hfu h true
  refine ⟨rd', ?_, g2.cg (fun s hs => by unfold seti; rw [if_pos (by omega)])⟩
  unfold f_Reader_setReadsAll
  show Option.bind (f_Glob_setReads fu (nI 0) (nI 94) (if true = true then 1 else 0) (nI (q + 1)) rd) _ = _
  rw [g1]
  rfl
theorem sr_slash {q fu : Nat} (hq : q ≤ 39) (hfu : 100 ≤ fu) {S : Nat → SS} {cur : SS} {rd : Nat → Int64} (h : RDc q S cur rd) : ∃ rd', f_Reader_setReads fu 47 47 0 (nI (q + 1)) rd = some rd' ∧ RDc q S (seti cur 15 15 false) rd' := srR (c1 := 47) (c2 := 47) hq (by omega) (by omega) (by omega) hfu h false
/-! brackets -/
section BRC
variable {t : Nat → Nat} {n fu : Nat} {tt : Nat → Int32} {q : Nat} {S : Nat → SS}
theorem isEl_rg {c : Nat} (h : isEl c = true) : ¬ c = 0 := (of_decide_eq_true h).1
theorem ch33 (hT : TX t n tt) {k : Nat} (h : ¬ chr_ t n k = 0) : k < n ∧ 33 ≤ chr_ t n k ∧ chr_ t n k ≤ 126 := by
  have hk : k < n := Classical.byContradiction fun z => h (by unfold chr_; rw [if_neg z])
  rw [ch_in hk]
  exact ⟨hk, (hT.2 k hk).2⟩
theorem rE_ok (hT : TX t n tt) (hq : q ≤ 39) (hfu : 100 ≤ fu) {k : Nat} (hk : k ≤ n) {cur : SS} {rd : Nat → Int64} (h : RDc q S cur rd) (v : Bool) :
    (∀ j, el1 t n k = .inl j → f_Reader_readElement fu (if v = true then 1 else 0) (nI k) (-1) (nI n) tt (nI (q + 1)) rd = some (nI j, nI j, rd)) ∧
    ∀ u, el1 t n k = .inr u → ∃ rd', f_Reader_readElement fu (if v = true then 1 else 0) (nI k) (-1) (nI n) tt (nI (q + 1)) rd = some (nI u.1, -1, rd') ∧ RDc q S (seti cur (u.2.1 - 32) (u.2.2 - 32) v) rd' := by
  have hn := hT.1
  have c1 := chC hT (show k < 1000 by omega)
  have c2 := chC hT (show k + 1 < 1000 by omega)
  have c3 := chC hT (show k + 1 + 1 < 1000 by omega)
  have i1 := isElC _ (ch_lt hT k)
  have i3 := isElC _ (ch_lt hT (k + 1 + 1))
  unfold f_Reader_readElement el1
  rw [c1, ob, i1, ob]
  by_cases h1 : isEl (chr_ t n k) = true
  · rw [if_pos h1, if_pos h1]
    obtain ⟨hk', l1, l2⟩ := ch33 hT (isEl_rg h1)
    rw [ps1, ob]
    dsimp only
    rw [ifT (show (-1 : Int32) = -1 from rfl), c2, ob]
    by_cases h2 : chr_ t n (k + 1) = 45
    · have e45 : nI (chr_ t n (k + 1)) = 45 := by rw [h2]; rfl
      rw [if_pos h2, ifT e45, ps1, ob]
      dsimp only
      rw [c3, ob, i3, ob]
      by_cases h3 : isEl (chr_ t n (k + 2)) = true
      · obtain ⟨hk3, m1, m2⟩ := ch33 hT (isEl_rg h3)
        rw [if_pos h3, ifF (show ¬ (1 : Int32) = 0 by decide)]
        by_cases h4 : chr_ t n k ≤ chr_ t n (k + 2)
        · have q4 : ¬ nI (chr_ t n (k + 2)) < nI (chr_ t n k) := fun z => by have := (nI_ltI (by omega) (by omega)).mp z; omega
          rw [if_pos ⟨h3, h4⟩, ifF (show ¬ nI (chr_ t n (k + 1 + 1)) < nI (chr_ t n k) from q4), ps1, ob]
          dsimp only
          rw [ifT (show (-1 : Int32) = -1 from rfl)]
          refine ⟨fun j e => (by cases e), fun u e => ?_⟩
          cases e
          obtain ⟨rd', g1, g2⟩ := srR (c1 := chr_ t n k) (c2 := chr_ t n (k + 2)) hq l1 h4 m2 hfu h v
          refine ⟨rd', ?_, g2⟩
          rw [g1]
          rfl
        · have q4 : nI (chr_ t n (k + 2)) < nI (chr_ t n k) := nI_lt (by omega) (by omega)
          rw [if_neg (fun z => h4 z.2), ifT (show nI (chr_ t n (k + 1 + 1)) < nI (chr_ t n k) from q4), ps0, ob]
          dsimp only
          rw [ifF (nI_nm1 (show k + 1 + 1 < 1000 by omega))]
          refine ⟨fun j e => ?_, fun u e => (by cases e)⟩
          cases e
          rfl
      · rw [if_neg h3, if_neg (fun z => h3 z.1), ifT (show (0 : Int32) = 0 from rfl), ps0, ob]
        dsimp only
        rw [ifF (nI_nm1 (show k + 1 + 1 < 1000 by omega))]
        refine ⟨fun j e => ?_, fun u e => (by cases e)⟩
        cases e
        rfl
    · have q2 : ¬ nI (chr_ t n (k + 1)) = 45 := fun z => h2 ((nI_eq (b := 45) (by have := ch_lt hT (k + 1); omega) (by omega)).mp z)
      rw [if_neg h2, ifF q2, ifT (show (-1 : Int32) = -1 from rfl)]
      refine ⟨fun j e => (by cases e), fun u e => ?_⟩
      cases e
      obtain ⟨rd', g1, g2⟩ := srR (c1 := chr_ t n k) (c2 := chr_ t n k) hq l1 (Nat.le_refl _) l2 hfu h v
      refine ⟨rd', ?_, g2⟩
      rw [g1]
      rfl
  · rw [if_neg h1, if_neg h1, ps0, ob]
    dsimp only
    rw [ifF (nI_nm1 (show k < 1000 by omega)), ifF (nI_nm1 (show k < 1000 by omega))]
    refine ⟨fun j e => ?_, fun u e => (by cases e)⟩
    cases e
    rfl
theorem L50_ok (hT : TX t n tt) (hq : q ≤ 39) (hfu : 100 ≤ fu) (ot : Bool) (k0 k1 : Int32 → Int32 → Int32 → (Nat → Int64) → Option (Int32 × Int32 × Int32 × Int64 × (Nat → Int64) × (Nat → Int64))) : ∀ (g e k f : Nat) (cur : SS) (rd : Nat → Int64), k ≤ n → n < k + g → e + 1 ≤ k → (1 ≤ e ∨ isEl (chr_ t n k) = true) → g < f → RDc q S cur rd →
    (∀ j, be t n (!ot) g k cur = .inl j → ∃ x y rd', f_Reader_readBrackets_L50 (nI n) tt (if ot = true then 1 else 0) (nI (q + 1)) fu k0 k1 f (nI e) (nI k) (-1) rd = k0 x y (nI j) rd') ∧
    ∀ u, be t n (!ot) g k cur = .inr u → ∃ x rd', f_Reader_readBrackets_L50 (nI n) tt (if ot = true then 1 else 0) (nI (q + 1)) fu k0 k1 f (nI e) (nI k) (-1) rd = k1 x (nI u.2) (-1) rd' ∧ RDc q S u.1 rd'
  | 0, e, k, f, cur, rd, hk, hg, he, h1, hf, hR => by omega
  | g + 1, e, k, f, cur, rd, hk, hg, he, h1, hf, hR => by
    obtain ⟨f, rfl⟩ : ∃ g, f = g + 1 := ⟨f - 1, by omega⟩
    have hn := hT.1
    have q40 : ¬ (40 : Int32) ≤ nI e := nI_ge (b := 40) (by omega) (by decide)
    have c1 := chC hT (show k < 1000 by omega)
    obtain ⟨r1, r2⟩ := rE_ok hT hq hfu hk hR (!ot)
    obtain ⟨o1, o2⟩ := el1_ok (t := t) hk
    -- one element, then on
    have elem : ¬ chr_ t n k = 93 → ∀ F : Int32 × Int32 × (Nat → Int64) → Option (Int32 × Int32 × Int32 × Int64 × (Nat → Int64) × (Nat → Int64)), (∀ y1 y2 y3, F (y1, y2, y3) = f_Reader_readBrackets_L50 (nI n) tt (if ot = true then 1 else 0) (nI (q + 1)) fu k0 k1 f (nI (e + 1)) y1 y2 y3) → (∀ j, be t n (!ot) (g + 1) k cur = .inl j → ∃ x y rd', Option.bind (f_Reader_readElement fu (if (!ot) = true then 1 else 0) (nI k) (-1) (nI n) tt (nI (q + 1)) rd) F = k0 x y (nI j) rd') ∧ ∀ u, be t n (!ot) (g + 1) k cur = .inr u → ∃ x rd', Option.bind (f_Reader_readElement fu (if (!ot) = true then 1 else 0) (nI k) (-1) (nI n) tt (nI (q + 1)) rd) F = k1 x (nI u.2) (-1) rd' ∧ RDc q S u.1 rd' := fun h93 F hF => by
      rw [be, if_neg h93]
      cases hel : el1 t n k with
      | inl j =>
        refine ⟨fun j' ej => ?_, fun u eu => (by cases eu)⟩
        cases ej
        have hj := (o1 j hel).2
        obtain ⟨f', rfl⟩ : ∃ g, f = g + 1 := ⟨f - 1, by omega⟩
        have eL : f_Reader_readBrackets_L50 (nI n) tt (if ot = true then 1 else 0) (nI (q + 1)) fu k0 k1 (f' + 1) (nI (e + 1)) (nI j) (nI j) rd = k0 (nI (e + 1)) (nI j) (nI j) rd := by
          rw [f_Reader_readBrackets_L50_s]
          by_cases z : (40 : Int32) ≤ nI (e + 1)
          · exact ifT z
          · exact (ifF z).trans (ifF (nI_nm1 (by omega)))
        refine ⟨nI (e + 1), nI j, rd, ?_⟩
        rw [r1 j hel]
        exact (hF _ _ _).trans eL
      | inr u =>
        obtain ⟨rd', g1, g2⟩ := r2 u hel
        obtain ⟨u1, u2, -⟩ := o2 u hel
        obtain ⟨i1, i2⟩ := L50_ok hT hq hfu ot k0 k1 g (e + 1) u.1 f _ rd' u2 (by omega) (by omega) (Or.inl (by omega)) (by omega) g2
        rw [g1]
        refine ⟨fun j ej => ?_, fun w ew => ?_⟩
        · obtain ⟨x, y, rd2, e2⟩ := i1 j ej
          exact ⟨x, y, rd2, (hF _ _ _).trans e2⟩
        · obtain ⟨x, rd2, e2, e3⟩ := i2 w ew
          exact ⟨x, rd2, (hF _ _ _).trans e2, e3⟩
    rw [f_Reader_readBrackets_L50_s, ifF q40, ifT rfl]
    have hc : ∀ y1 y2 y3, (fun l2_50 rr_at_50 rr_fault_50 gg_readersOf_50 => f_Reader_readBrackets_L50 (nI n) tt (if ot = true then 1 else 0) (nI (q + 1)) fu k0 k1 f l2_50 rr_at_50 rr_fault_50 gg_readersOf_50) (nI e + 1) y1 y2 y3 = f_Reader_readBrackets_L50 (nI n) tt (if ot = true then 1 else 0) (nI (q + 1)) fu k0 k1 f (nI (e + 1)) y1 y2 y3 := fun y1 y2 y3 => by rw [nI_1]
    by_cases e0 : e = 0
    · subst e0
      have h93 : ¬ chr_ t n k = 93 := by
        rcases h1 with h1 | h1
        · omega
        · exact (of_decide_eq_true h1).2.2.1
      rw [ifT (show nI 0 ≤ 0 by decide)]
      cases ot with
      | false =>
        rw [ifT (show (if false = true then (1 : Int32) else 0) = 0 from rfl)]
        exact elem h93 _ (fun y1 y2 y3 => hc y1 y2 y3)
      | true =>
        rw [ifF (show ¬ (if true = true then (1 : Int32) else 0) = 0 by decide)]
        exact elem h93 _ (fun y1 y2 y3 => hc y1 y2 y3)
    · have qe : ¬ nI e ≤ 0 := nI_ge (a := 0) (by omega) (by omega)
      rw [ifF qe, c1]
      by_cases h93 : chr_ t n k = 93
      · rw [be, if_pos h93]
        refine ⟨fun j ej => (by cases ej), fun u eu => ?_⟩
        cases eu
        refine ⟨nI e, rd, ?_, hR⟩
        exact ifT (show nI (chr_ t n k) = 93 by rw [h93]; rfl)
      · have q93 : ¬ nI (chr_ t n k) = 93 := fun z => h93 ((nI_eq (b := 93) (by have := ch_lt hT k; omega) (by omega)).mp z)
        show (∀ j, _ → ∃ x y rd', (if nI (chr_ t n k) = 93 then _ else _) = _) ∧ ∀ u, _ → ∃ x rd', (if nI (chr_ t n k) = 93 then _ else _) = _ ∧ _
        rw [ifF q93]
        cases ot with
        | false =>
          rw [ifT (show (if false = true then (1 : Int32) else 0) = 0 from rfl)]
          exact elem h93 _ (fun y1 y2 y3 => hc y1 y2 y3)
        | true =>
          rw [ifF (show ¬ (if true = true then (1 : Int32) else 0) = 0 by decide)]
          exact elem h93 _ (fun y1 y2 y3 => hc y1 y2 y3)
end BRC
