/-! the reference reads a glob: bytes, pieces, brackets -/
def TXM (t : Nat → Nat) (n off tl : Nat) (vT : Nat → Int32) : Prop := n ≤ 40 ∧ off + n ≤ tl ∧ tl ≤ 240 ∧ ∀ j, j < n → vT (off + j) = nI (t j) ∧ 33 ≤ t j ∧ t j ≤ 126
def chM (t : Nat → Nat) (n k : Nat) : Int32 := if k < n then nI (t k) else -1
section RDM
variable {t : Nat → Nat} {n off tl fu : Nat} {vT : Nat → Int32}
theorem cM (hT : TXM t n off tl vT) {k : Nat} (hk : k < 1000) : f_M_charAt tl (nI off) (nI n) (nI k) vT = some (chM t n k) := by
  obtain ⟨h1, h2, h3, h4⟩ := hT
  unfold f_M_charAt chM
  by_cases z : k < n
  · rw [ifF (nI_ge z (by omega)), nI_add, ifT (inB_nI (by omega) (by omega)), nI_clamp (by omega), (h4 k z).1, if_pos z]
  · rw [ifT (nI_le (by omega) (by omega)), if_neg z]
theorem elM0 : ∀ c, c < 127 → 33 ≤ c → f_M_isElement (nI c) = some (if isEl c = true then 1 else 0) := by decide +kernel
theorem elM1 : f_M_isElement (-1) = some 0 := by decide +kernel
theorem elM (hT : TXM t n off tl vT) (k : Nat) : f_M_isElement (chM t n k) = some (if isEl (chr_ t n k) = true then 1 else 0) := by
  unfold chM chr_
  by_cases z : k < n
  · rw [if_pos z, if_pos z]
    obtain ⟨-, a, b⟩ := hT.2.2.2 k z
    exact elM0 _ (by omega) a
  · rw [if_neg z, if_neg z]; exact elM1
theorem chM_eq (hT : TXM t n off tl vT) {k l : Nat} (hl : l < 1000) (hl0 : ¬ l = 0) : chM t n k = nI l ↔ chr_ t n k = l := by
  unfold chM chr_
  by_cases z : k < n
  · rw [if_pos z, if_pos z]
    obtain ⟨-, a, b⟩ := hT.2.2.2 k z
    exact nI_eq (by omega) (by omega)
  · rw [if_neg z, if_neg z]
    constructor
    · intro e; exact absurd e.symm (nI_nm1 hl)
    · intro e; exact absurd e.symm hl0
theorem chM_in {k : Nat} (h : k < n) : chM t n k = nI (t k) := if_pos h
theorem chM_ch {k : Nat} (h : ¬ chr_ t n k = 0) : chM t n k = nI (chr_ t n k) := by
  have : k < n := Classical.byContradiction fun z => h (by unfold chr_; rw [if_neg z])
  rw [chM_in this, ch_in this]
theorem chM33 (hT : TXM t n off tl vT) {k : Nat} (h : ¬ chr_ t n k = 0) : k < n ∧ 33 ≤ chr_ t n k ∧ chr_ t n k ≤ 126 := by
  have hk : k < n := Classical.byContradiction fun z => h (by unfold chr_; rw [if_neg z])
  rw [ch_in hk]
  exact ⟨hk, (hT.2.2.2 k hk).2⟩
/-! bytes of pieces -/
theorem hb_upd {vB : Nat → Int64} {p b : Nat} (hb' : b < 256) {w : Int64} {v : Bool} (hw : ∀ i, i < 64 → lb w i = if i = b % 64 then v else lb (vB (4 * p + b / 64)) i) : ∀ p' b', b' < 256 → hb (vp_updL vB (4 * p + b / 64) w) p' b' = if p' = p ∧ b' = b then v else hb vB p' b' := fun p' b' hb2 => by
  unfold hb
  by_cases e : 4 * p' + b' / 64 = 4 * p + b / 64
  · rw [e, pk_uLs, hw _ (by omega)]
    by_cases e2 : b' % 64 = b % 64
    · rw [if_pos e2, if_pos (by omega)]
    · rw [if_neg e2, if_neg (by omega)]
  · rw [pk_uLn e, if_neg (fun z => e (by rw [z.1, z.2]))]
theorem sB_ok {vB : Nat → Int64} {p b : Nat} (hp : p < 100) (hb' : b < 256) (v : Bool) : ∃ vB', f_M_setByte (nI p) (nI b) (if v = true then 1 else 0) vB = some vB' ∧ ∀ p' b', b' < 256 → hb vB' p' b' = if p' = p ∧ b' = b then v else hb vB p' b' := by
  have hi : inB (nI (4 * p + b / 64)) 400 = true := inB_nI (by omega) (by omega)
  unfold f_M_setByte
  have z64 : ¬ (64 : Int32) = 0 := by decide
  cases v with
  | true =>
    rw [ifT z64, ifT z64, ifF (show ¬ (if true = true then (1 : Int32) else 0) = 0 by decide), ifT z64, e64 hb', ifT hi, ifT hi, m64 b hb', nI_clamp (by omega)]
    refine ⟨_, rfl, hb_upd hb' (fun i hi => ?_)⟩
    rw [lb_or, lb_bit _ (by omega)]
    by_cases e : i = b % 64
    · rw [if_pos e]; simp [e]
    · rw [if_neg e]; simp [e]
  | false =>
    rw [ifT z64, ifT z64, ifT (show (if false = true then (1 : Int32) else 0) = 0 from rfl), ifT z64, e64 hb', ifT hi, ifT hi, m64 b hb', nI_clamp (by omega)]
    refine ⟨_, rfl, hb_upd hb' (fun i hi => ?_)⟩
    rw [lb_and, lb_not hi, lb_bit _ (by omega)]
    by_cases e : i = b % 64
    · rw [if_pos e]; simp [e]
    · rw [if_neg e]; simp [e]
theorem nP_loop {P : Nat} (hP : P < 100) (v : Bool) (kk : Int32 → (Nat → Int64) → Option (Int32 × Int32 × (Nat → Int64) × (Nat → Int32))) : ∀ (d k f : Nat) (vB : Nat → Int64), k + d = 4 → d < f → ∃ vB', f_M_newPiece_L2 (nI P) (if v = true then 1 else 0) kk f (nI k) vB = kk (nI 4) vB' ∧ ∀ p b, b < 256 → hb vB' p b = if p = P ∧ 64 * k ≤ b then v else hb vB p b
  | 0, k, f, vB, hd, hf => by
    obtain ⟨f, rfl⟩ : ∃ g, f = g + 1 := ⟨f - 1, by omega⟩
    have : k = 4 := by omega
    subst this
    rw [f_M_newPiece_L2_s]
    exact ⟨vB, ifT (by decide), fun p b hb' => by rw [if_neg (by omega)]⟩
  | d + 1, k, f, vB, hd, hf => by
    obtain ⟨f, rfl⟩ : ∃ g, f = g + 1 := ⟨f - 1, by omega⟩
    have q4 : ¬ (4 : Int32) ≤ nI k := nI_ge (b := 4) (by omega) (by decide)
    have ei : (4 : Int32) * nI P + nI k = nI (4 * P + k) := by
      rw [show (4 : Int32) = nI 4 from rfl, pk_mul, nI_add]
    have hi : inB (nI (4 * P + k)) 400 = true := inB_nI (by omega) (by omega)
    have step : ∀ w : Int64, (∀ i, i < 64 → lb w i = v) → ∀ vB', (∀ p b, b < 256 → hb vB' p b = if p = P ∧ 64 * (k + 1) ≤ b then v else hb (vp_updL vB (4 * P + k) w) p b) → ∀ p b, b < 256 → hb vB' p b = if p = P ∧ 64 * k ≤ b then v else hb vB p b := fun w hw vB' h p b hb' => by
      rw [h p b hb']
      by_cases e : p = P ∧ 64 * (k + 1) ≤ b
      · rw [if_pos e, if_pos (by omega)]
      · rw [if_neg e]
        unfold hb
        by_cases e2 : 4 * p + b / 64 = 4 * P + k
        · rw [e2, pk_uLs, hw _ (by omega), if_pos (by omega)]
        · rw [pk_uLn e2, if_neg (by omega)]
    rw [f_M_newPiece_L2_s, ifF q4]
    cases v with
    | true =>
      rw [ifF (show ¬ (if true = true then (1 : Int32) else 0) = 0 by decide), ei, ifT hi, nI_clamp (by omega), nI_1]
      obtain ⟨vB', g1, g2⟩ := nP_loop hP true kk d (k + 1) f (vp_updL vB (4 * P + k) (-1)) (by omega) (by omega)
      exact ⟨vB', g1, step _ (fun i hi => lb_m1 i hi) vB' g2⟩
    | false =>
      rw [ifT (show (if false = true then (1 : Int32) else 0) = 0 from rfl), ei, ifT hi, nI_clamp (by omega), nI_1]
      obtain ⟨vB', g1, g2⟩ := nP_loop hP false kk d (k + 1) f (vp_updL vB (4 * P + k) 0) (by omega) (by omega)
      exact ⟨vB', g1, step _ (fun i hi => lb_0 i) vB' g2⟩
theorem nP_ok {P : Nat} (hP : P < 100) (hfu : 100 ≤ fu) (v : Bool) (vB : Nat → Int64) (vS : Nat → Int32) : ∃ vB', f_M_newPiece fu (if v = true then 1 else 0) (nI P) vB vS = some (nI P, nI (P + 1), vB', upd vS P 0) ∧ ∀ p b, b < 256 → hb vB' p b = if p = P then v else hb vB p b := by
  obtain ⟨vB', g1, g2⟩ := nP_loop hP v (fun l2_2 v_bytes_2 => (if inB (nI P) 100 = true then some (((nI P + (1 : Int32)) - (1 : Int32)), (nI P + (1 : Int32)), v_bytes_2, (upd vS (nI P).toNatClampNeg (vp_nar .boolean (0 : Int32)))) else none)) 4 0 fu vB (by omega) (by omega)
  refine ⟨vB', ?_, fun p b hb' => ?_⟩
  · unfold f_M_newPiece
    refine Eq.trans g1 ?_
    have e1 : nI (P + 1) - 1 = nI P := pk_sub (b := 1) (by omega)
    show (if inB (nI P) 100 = true then some (((nI P + (1 : Int32)) - (1 : Int32)), (nI P + (1 : Int32)), vB', (upd vS (nI P).toNatClampNeg (vp_nar .boolean (0 : Int32)))) else none) = _
    rw [ifT (inB_nI hP (by omega)), nI_1, e1, nI_clamp (by omega)]
    rfl
  · rw [g2 p b hb']
    by_cases e : p = P
    · rw [if_pos (by omega), if_pos e]
    · rw [if_neg (by omega), if_neg e]
/-- bytes: those of older rules, of q pieces, and of the newest -/
def HB (P0 q : Nat) (vB0 : Nat → Int64) (S : Nat → SS) (cur : SS) (vB : Nat → Int64) : Prop := (∀ p, p < P0 → ∀ b, b < 256 → hb vB p b = hb vB0 p b) ∧ (∀ q', q' < q → ∀ b, b < 256 → hb vB (P0 + q') b = S q' (sy b)) ∧ ∀ b, b < 256 → hb vB (P0 + q) b = cur (sy b)
def HBf (P0 q : Nat) (vB0 : Nat → Int64) (S : Nat → SS) (vB : Nat → Int64) : Prop := (∀ p, p < P0 → ∀ b, b < 256 → hb vB p b = hb vB0 p b) ∧ ∀ q', q' < q → ∀ b, b < 256 → hb vB (P0 + q') b = S q' (sy b)
variable {P0 q : Nat} {vB0 : Nat → Int64} {S : Nat → SS}
theorem HBf.new {vB vB' : Nat → Int64} (h : HBf P0 q vB0 S vB) {v : Bool} (h' : ∀ p b, b < 256 → hb vB' p b = if p = P0 + q then v else hb vB p b) : HB P0 q vB0 S (fun _ => v) vB' :=
  ⟨fun p hp b hb' => by rw [h' p b hb', if_neg (by omega)]; exact h.1 p hp b hb', fun q' hq b hb' => by rw [h' _ b hb', if_neg (by omega)]; exact h.2 q' hq b hb', fun b hb' => by rw [h' _ b hb', if_pos rfl]⟩
theorem HB.cg {cur cur' : SS} {vB : Nat → Int64} (h : HB P0 q vB0 S cur vB) (e : ∀ s, s < 95 → cur s = cur' s) : HB P0 q vB0 S cur' vB := ⟨h.1, h.2.1, fun b hb' => by rw [← e _ (sy_lt b)]; exact h.2.2 b hb'⟩
theorem HB.fin {cur : SS} {vB : Nat → Int64} (h : HB P0 q vB0 S cur vB) : HBf P0 (q + 1) vB0 (va_up S q cur) vB := ⟨h.1, fun q' hq b hb' => by
  by_cases e : q' = q
  · subst e; rw [up_s]; exact h.2.2 b hb'
  · rw [up_n e]; exact h.2.1 q' (by omega) b hb'⟩
theorem HB.set {cur : SS} {vB vB' : Nat → Int64} (h : HB P0 q vB0 S cur vB) {c : Nat} (h1 : 33 ≤ c) (h2 : c ≤ 126) {v : Bool} (h' : ∀ p b, b < 256 → hb vB' p b = if p = P0 + q ∧ b = c then v else hb vB p b) : HB P0 q vB0 S (seti cur (c - 32) (c - 32) v) vB' :=
  ⟨fun p hp b hb' => by rw [h' p b hb', if_neg (by omega)]; exact h.1 p hp b hb', fun q' hq b hb' => by rw [h' _ b hb', if_neg (by omega)]; exact h.2.1 q' hq b hb', fun b hb' => by
    rw [h' _ b hb']
    unfold seti
    by_cases e : b = c
    · subst e
      rw [if_pos ⟨rfl, rfl⟩, sy1 h1 h2, if_pos ⟨Nat.le_refl _, Nat.le_refl _⟩]
    · rw [if_neg (fun z => e z.2), h.2.2 b hb', if_neg]
      intro z
      by_cases b1 : b < 33
      · rw [sy0 b1] at z; omega
      · by_cases b2 : b ≤ 126
        · rw [sy1 (by omega) b2] at z; omega
        · rw [sy2 (by omega)] at z; omega⟩
theorem L202_ok (hP : P0 + q < 100) {lo hi : Nat} (h1 : 33 ≤ lo) (h2 : hi ≤ 126) (ot : Bool) {cur : SS} (kk : Int32 → (Nat → Int64) → Option (Int32 × Int32 × Int32 × (Nat → Int32) × (Nat → Int32) × (Nat → Int32) × (Nat → Int64) × (Nat → Int32))) : ∀ (d b f : Nat) (vB : Nat → Int64), b + d = hi + 1 → lo ≤ b → d < f → HB P0 q vB0 S (fun s => if lo - 32 ≤ s ∧ s + 32 < b then !ot else cur s) vB → ∃ vB' x, f_M_readClass_L202 (nI (P0 + q)) (if ot = true then 1 else 0) (nI hi) kk f (nI b) vB = kk x vB' ∧ HB P0 q vB0 S (seti cur (lo - 32) (hi - 32) (!ot)) vB'
  | 0, b, f, vB, hd, hlo, hf, hB => by
    obtain ⟨f, rfl⟩ : ∃ g, f = g + 1 := ⟨f - 1, by omega⟩
    rw [f_M_readClass_L202_s, ifT (nI_lt (by omega) (by omega))]
    refine ⟨vB, _, rfl, hB.cg (fun s hs => ?_)⟩
    unfold seti
    by_cases z : lo - 32 ≤ s ∧ s + 32 < b
    · rw [if_pos z, if_pos (by omega)]
    · rw [if_neg z, if_neg (by omega)]
  | d + 1, b, f, vB, hd, hlo, hf, hB => by
    obtain ⟨f, rfl⟩ : ∃ g, f = g + 1 := ⟨f - 1, by omega⟩
    have q1 : ¬ nI hi < nI b := fun z => by have := (nI_ltI (by omega) (by omega)).mp z; omega
    rw [f_M_readClass_L202_s, ifF q1]
    obtain ⟨vB', s1, s2⟩ := sB_ok (vB := vB) hP (show b < 256 by omega) (!ot)
    have hB' : HB P0 q vB0 S (fun s => if lo - 32 ≤ s ∧ s + 32 < b + 1 then !ot else cur s) vB' := (hB.set (c := b) (by omega) (by omega) s2).cg (fun s hs => by
      show (if b - 32 ≤ s ∧ s ≤ b - 32 then !ot else (if lo - 32 ≤ s ∧ s + 32 < b then !ot else cur s)) = (if lo - 32 ≤ s ∧ s + 32 < b + 1 then !ot else cur s)
      by_cases z : b - 32 ≤ s ∧ s ≤ b - 32
      · rw [if_pos z, if_pos (by omega)]
      · rw [if_neg z]
        by_cases z2 : lo - 32 ≤ s ∧ s + 32 < b
        · rw [if_pos z2, if_pos (by omega)]
        · rw [if_neg z2, if_neg (by omega)])
    obtain ⟨vB2, x, g1, g2⟩ := L202_ok hP h1 h2 ot kk d (b + 1) f vB' (by omega) (by omega) (by omega) hB'
    refine ⟨vB2, x, ?_, g2⟩
    cases ot with
    | false =>
      have s1' : f_M_setByte (nI (P0 + q)) (nI b) 1 vB = some vB' := s1
      rw [ifT (show (if false = true then (1 : Int32) else 0) = 0 from rfl), s1', ob]
      show f_M_readClass_L202 (nI (P0 + q)) (if false = true then 1 else 0) (nI hi) kk f (nI b + 1) vB' = _
      rw [nI_1]; exact g1
    | true =>
      have s1' : f_M_setByte (nI (P0 + q)) (nI b) 0 vB = some vB' := s1
      rw [ifF (show ¬ (if true = true then (1 : Int32) else 0) = 0 by decide), s1', ob]
      show f_M_readClass_L202 (nI (P0 + q)) (if true = true then 1 else 0) (nI hi) kk f (nI b + 1) vB' = _
      rw [nI_1]; exact g1
theorem L77_ok (hT : TXM t n off tl vT) (hP : P0 + q < 100) (hfu : 200 ≤ fu) (ot : Bool) (k0 k1 k2 : Int32 → (Nat → Int64) → Option (Int32 × Int32 × Int32 × (Nat → Int32) × (Nat → Int32) × (Nat → Int32) × (Nat → Int64) × (Nat → Int32))) : ∀ (g k f : Nat) (cur : SS) (vB : Nat → Int64), k ≤ n → n < k + g → g < f → HB P0 q vB0 S cur vB →
    (∀ j, be t n (!ot) g k cur = .inl j → ∃ vB', (∃ i, j = i + 1 ∧ f_M_readClass_L77 vT tl (nI off) (nI n) (nI (P0 + q)) (if ot = true then 1 else 0) fu k0 k1 k2 f (nI k) vB = k1 (nI i) vB') ∨ f_M_readClass_L77 vT tl (nI off) (nI n) (nI (P0 + q)) (if ot = true then 1 else 0) fu k0 k1 k2 f (nI k) vB = k2 (nI j) vB') ∧
    ∀ u, be t n (!ot) g k cur = .inr u → ∃ vB', f_M_readClass_L77 vT tl (nI off) (nI n) (nI (P0 + q)) (if ot = true then 1 else 0) fu k0 k1 k2 f (nI k) vB = k0 (nI u.2) vB' ∧ HB P0 q vB0 S u.1 vB'
  | 0, k, f, cur, vB, hk, hg, hf, hB => by omega
  | g + 1, k, f, cur, vB, hk, hg, hf, hB => by
    obtain ⟨f, rfl⟩ : ∃ g, f = g + 1 := ⟨f - 1, by omega⟩
    have hn := hT.1
    obtain ⟨o1, o2⟩ := el1_ok (t := t) hk
    have c1 := cM hT (show k < 1000 by omega)
    have c2 := cM hT (show k + 1 < 1000 by omega)
    have c3 := cM hT (show k + 2 < 1000 by omega)
    rw [f_M_readClass_L77_s, c1, ob]
    by_cases h93 : chr_ t n k = 93
    · have e93 : chM t n k = 93 := (chM_eq hT (l := 93) (by omega) (by omega)).mpr h93
      rw [ifT e93, be, if_pos h93]
      refine ⟨fun j e => (by cases e), fun u e => ?_⟩
      cases e
      exact ⟨vB, rfl, hB⟩
    · have q93 : ¬ chM t n k = 93 := fun z => h93 ((chM_eq hT (l := 93) (by omega) (by omega)).mp z)
      rw [ifF q93, ob, elM hT k, ob, be, if_neg h93]
      by_cases h1 : isEl (chr_ t n k) = true
      · obtain ⟨hkn, l1, l2⟩ := chM33 hT (isEl_rg h1)
        have e1 := chM_ch (isEl_rg h1)
        rw [if_pos h1, ifF (show ¬ (1 : Int32) = 0 by decide), nI_1, c2, ob]
        -- an element from lo to hi, then on from k'
        have elem : ∀ (k' lo hi : Nat), el1 t n k = .inr (k', lo, hi) → 33 ≤ lo → lo ≤ hi → hi ≤ 126 →
            (∀ j, (match el1 t n k with | .inl j => (.inl j : Nat ⊕ (SS × Nat)) | .inr q => be t n (!ot) g q.1 (seti cur (q.2.1 - 32) (q.2.2 - 32) (!ot))) = .inl j → ∃ vB', (∃ i, j = i + 1 ∧ f_M_readClass_J198 (nI (P0 + q)) (if ot = true then 1 else 0) fu (fun l7_77 v_bytes_77 => f_M_readClass_L77 vT tl (nI off) (nI n) (nI (P0 + q)) (if ot = true then 1 else 0) fu k0 k1 k2 f l7_77 v_bytes_77) (nI k') (nI hi) (nI lo) vB = k1 (nI i) vB') ∨ f_M_readClass_J198 (nI (P0 + q)) (if ot = true then 1 else 0) fu (fun l7_77 v_bytes_77 => f_M_readClass_L77 vT tl (nI off) (nI n) (nI (P0 + q)) (if ot = true then 1 else 0) fu k0 k1 k2 f l7_77 v_bytes_77) (nI k') (nI hi) (nI lo) vB = k2 (nI j) vB') ∧
            ∀ u, (match el1 t n k with | .inl j => (.inl j : Nat ⊕ (SS × Nat)) | .inr q => be t n (!ot) g q.1 (seti cur (q.2.1 - 32) (q.2.2 - 32) (!ot))) = .inr u → ∃ vB', f_M_readClass_J198 (nI (P0 + q)) (if ot = true then 1 else 0) fu (fun l7_77 v_bytes_77 => f_M_readClass_L77 vT tl (nI off) (nI n) (nI (P0 + q)) (if ot = true then 1 else 0) fu k0 k1 k2 f l7_77 v_bytes_77) (nI k') (nI hi) (nI lo) vB = k0 (nI u.2) vB' ∧ HB P0 q vB0 S u.1 vB' := fun k' lo hi he a1 a2 a3 => by
          obtain ⟨u1, u2, -⟩ := o2 _ he
          have u1' : k < k' := u1
          have u2' : k' ≤ n := u2
          obtain ⟨vB', x, g1, g2⟩ := L202_ok hP a1 a3 ot (cur := cur) (fun l10_202 v_bytes_202 => f_M_readClass_L77 vT tl (nI off) (nI n) (nI (P0 + q)) (if ot = true then 1 else 0) fu k0 k1 k2 f (nI k') v_bytes_202) (hi + 1 - lo) lo fu vB (by omega) (Nat.le_refl _) (by omega) (hB.cg (fun s hs => by rw [if_neg (by omega)]))
          obtain ⟨i1, i2⟩ := L77_ok hT hP hfu ot k0 k1 k2 g k' f _ vB' u2' (by omega) (by omega) g2
          rw [he]
          refine ⟨fun j e => ?_, fun u e => ?_⟩
          · obtain ⟨vB2, h⟩ := i1 j e
            refine ⟨vB2, ?_⟩
            rcases h with ⟨i, h1, h2⟩ | h
            · exact Or.inl ⟨i, h1, Eq.trans g1 h2⟩
            · exact Or.inr (Eq.trans g1 h)
          · obtain ⟨vB2, h1, h2⟩ := i2 u e
            exact ⟨vB2, Eq.trans g1 h1, h2⟩
        by_cases h2 : chr_ t n (k + 1) = 45
        · have e45 : nI (k + 1) + 1 = nI (k + 2) := nI_1 (k + 1)
          have e45' : chM t n (k + 1) = 45 := (chM_eq hT (l := 45) (by omega) (by omega)).mpr h2
          rw [ifT e45', e45, c3, ob, elM hT (k + 2), ob]
          by_cases h3 : isEl (chr_ t n (k + 2)) = true
          · obtain ⟨hk3, m1, m2⟩ := chM33 hT (isEl_rg h3)
            have e3 := chM_ch (isEl_rg h3)
            rw [if_pos h3, ifF (show ¬ (1 : Int32) = 0 by decide), e1, e3]
            by_cases h4 : chr_ t n k ≤ chr_ t n (k + 2)
            · have ek : nI (k + 1) + 2 = nI (k + 3) := by rw [show (2 : Int32) = nI 2 from rfl, nI_add]
              have he : el1 t n k = .inr (k + 3, chr_ t n k, chr_ t n (k + 2)) := by unfold el1; rw [if_pos h1, if_pos h2, if_pos ⟨h3, h4⟩]
              rw [ifT (nI_le h4 (by omega)), ek]
              exact elem _ _ _ he l1 h4 m2
            · have he : el1 t n k = .inl (k + 2) := by unfold el1; rw [if_pos h1, if_pos h2, if_neg (fun z => h4 z.2)]
              rw [ifF (nI_ge (by omega) (by omega)), he]
              refine ⟨fun j e => ?_, fun u e => (by cases e)⟩
              cases e
              exact ⟨vB, Or.inl ⟨k + 1, rfl, rfl⟩⟩
          · have he : el1 t n k = .inl (k + 2) := by unfold el1; rw [if_pos h1, if_pos h2, if_neg (fun z => h3 z.1)]
            rw [if_neg h3, ifT (show (0 : Int32) = 0 from rfl), he]
            refine ⟨fun j e => ?_, fun u e => (by cases e)⟩
            cases e
            exact ⟨vB, Or.inl ⟨k + 1, rfl, rfl⟩⟩
        · have q45 : ¬ chM t n (k + 1) = 45 := fun z => h2 ((chM_eq hT (l := 45) (by omega) (by omega)).mp z)
          have he : el1 t n k = .inr (k + 1, chr_ t n k, chr_ t n k) := by unfold el1; rw [if_pos h1, if_neg h2]
          rw [ifF q45, e1]
          exact elem _ _ _ he l1 (Nat.le_refl _) l2
      · have he : el1 t n k = .inl k := by unfold el1; rw [if_neg h1]
        rw [if_neg h1, ifT (show (0 : Int32) = 0 from rfl), he]
        refine ⟨fun j e => ?_, fun u e => (by cases e)⟩
        cases e
        exact ⟨vB, Or.inr rfl⟩
end RDM
