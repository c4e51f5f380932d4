/-! columns of symbols, classes of bytes: the same numbers -/
def hb (vB : Nat → Int64) (p b : Nat) : Bool := lb (vB (4 * p + b / 64)) (b % 64)
theorem d64 : ∀ b, b < 256 → nI b / 64 = nI (b / 64) := by decide +kernel
theorem m64 : ∀ b, b < 256 → nI b - nI b / 64 * 64 = nI (b % 64) := by decide +kernel
theorem e64 {p b : Nat} (hb : b < 256) : (4 : Int32) * nI p + nI b / 64 = nI (4 * p + b / 64) := by
  rw [d64 b hb, show (4 : Int32) = nI 4 from rfl, pk_mul, nI_add]
theorem has_eq {vB : Nat → Int64} {p b : Nat} (hp : p < 100) (hb' : b < 256) : f_M_hasByte (nI p) (nI b) vB = some (if hb vB p b = true then 1 else 0) := by
  unfold f_M_hasByte
  rw [ifT (by decide), e64 hb', ifT (inB_nI (by omega) (by omega)), ifT (by decide), nI_clamp (by omega), m64 b hb']
  by_cases h : hb vB p b = true
  · have h' : lb (vB (4 * p + b / 64)) (b % 64) = true := h
    rw [ifT ((lg_cmp0 _ _).mpr ((lb_sshr1 _ (by omega)).mpr h')), ifT (Or.inr rfl), if_pos h]
  · have h' : ¬ lb (vB (4 * p + b / 64)) (b % 64) = true := h
    rw [ifF (fun q => h' ((lb_sshr1 _ (by omega)).mp ((lg_cmp0 _ _).mp q))), ifT (Or.inl rfl), if_neg h]
/-- the class's readers by symbols are the reference's by bytes -/
def RDok (P : Nat) (R vB : Nat → Int64) : Prop := (∀ s, s < 95 → lb (R s) 0 = false ∧ ∀ p, P + 1 ≤ p → p < 64 → lb (R s) p = false) ∧ ∀ p, p < P → ∀ b, b < 256 → hb vB p b = lb (R (sy b)) (p + 1)
theorem RDok.eq {P : Nat} (hP : P ≤ 60) {R vB : Nat → Int64} (h : RDok P R vB) {b e : Nat} (hb' : b < 256) (he : e < 256) : (∀ p, p < P → hb vB p b = hb vB p e) ↔ R (sy e) = R (sy b) := by
  constructor
  · intro g
    refine lb_ext fun i hi => ?_
    cases i with
    | zero => rw [(h.1 _ (sy_lt e)).1, (h.1 _ (sy_lt b)).1]
    | succ j =>
      by_cases z : j < P
      · rw [← h.2 j z b hb', ← h.2 j z e he, g j z]
      · rw [(h.1 _ (sy_lt e)).2 (j + 1) (by omega) hi, (h.1 _ (sy_lt b)).2 (j + 1) (by omega) hi]
  · intro g p hp
    rw [h.2 p hp b hb', h.2 p hp e he, g]
def key (R : Nat → Int64) (s : Nat) : Nat := (R s).toBitVec.toNat
theorem key_eq {R : Nat → Int64} {s t : Nat} : key R s = key R t ↔ R s = R t := by
  constructor
  · intro h; exact Int64.toBitVec_inj.mp (BitVec.eq_of_toNat_eq h)
  · intro h; unfold key; rw [h]
def WV (N : Nat) (kn : Nat → Nat) (q : VQ) : Prop := (∀ s, s < q.1 → q.2.2 s < N ∧ q.2.1 (kn (q.2.2 s)) = some s) ∧ ∀ k v, q.2.1 k = some v → v < q.1 ∧ kn (q.2.2 v) = k
theorem WV0 (N : Nat) (kn : Nat → Nat) : WV N kn q0 := ⟨fun s hs => absurd hs (Nat.not_lt_zero _), fun k v h => by cases h⟩
theorem WV.vis {M : Nat} {kn : Nat → Nat} {q : VQ} (h : WV M kn q) {x : Nat} (hx : x < M) : WV M kn (vis kn x q) := by
  cases hq : q.2.1 (kn x) with
  | some v => rw [vis_some hq]; exact h
  | none =>
    rw [vis_none hq]
    refine ⟨fun s hs => ?_, fun k v hv => ?_⟩
    · show va_up q.2.2 q.1 x s < M ∧ va_up q.2.1 (kn x) (some q.1) (kn (va_up q.2.2 q.1 x s)) = some s
      have hs' : s < q.1 + 1 := hs
      by_cases z : s = q.1
      · subst z; rw [up_s, up_s]; exact ⟨hx, rfl⟩
      · obtain ⟨a, b⟩ := h.1 s (by omega)
        rw [up_n z]
        refine ⟨a, ?_⟩
        rw [up_n (fun e => by rw [e, hq] at b; cases b)]
        exact b
    · show v < q.1 + 1 ∧ kn (va_up q.2.2 q.1 x v) = k
      have hv' : va_up q.2.1 (kn x) (some q.1) k = some v := hv
      by_cases z : k = kn x
      · rw [z, up_s] at hv'
        cases hv'
        rw [up_s]
        exact ⟨by omega, z.symm⟩
      · rw [up_n z] at hv'
        obtain ⟨a, b⟩ := h.2 k v hv'
        rw [up_n (by omega)]
        exact ⟨by omega, b⟩
theorem WV.visN {M : Nat} {kn : Nat → Nat} : ∀ n, n ≤ M → WV M kn (visN kn (fun s => s) q0 n)
  | 0, _ => WV0 M kn
  | n + 1, h => WV.vis (x := n) (WV.visN n (by omega)) (by omega)
theorem visN_le {kn : Nat → Nat} : ∀ n, (visN kn (fun s => s) q0 n).1 ≤ n
  | 0 => Nat.le_refl _
  | n + 1 => by
    have := visN_le (kn := kn) n
    show (vis kn n (visN kn (fun s => s) q0 n)).1 ≤ n + 1
    cases hq : (visN kn (fun s => s) q0 n).2.1 (kn n) with
    | some v => rw [vis_some hq]; omega
    | none => rw [vis_none hq]; show (visN kn (fun s => s) q0 n).1 + 1 ≤ n + 1; omega
theorem visN_keep' {kn : Nat → Nat} {k v n : Nat} (h : (visN kn (fun s => s) q0 n).2.1 k = some v) : ∀ m, n ≤ m → (visN kn (fun s => s) q0 m).2.1 k = some v
  | 0, hm => by
    have : n = 0 := by omega
    subst this; exact h
  | m + 1, hm => by
    by_cases e : n = m + 1
    · subst e; exact h
    · exact vis_keep (visN_keep' h m (by omega))
theorem sy0 {b : Nat} (h : b < 33) : sy b = 0 := by unfold sy; rw [if_pos h]
theorem sy1 {b : Nat} (h : 33 ≤ b) (h2 : b ≤ 126) : sy b = b - 32 := by unfold sy; rw [if_neg (by omega), if_pos h2]
theorem sy2 {b : Nat} (h : 126 < b) : sy b = 0 := by unfold sy; rw [if_neg (by omega), if_neg (by omega)]
def msv (b : Nat) : Nat := if b = 0 then 0 else if b ≤ 33 then 1 else if b ≤ 127 then b - 32 else 95
theorem ms0 : msv 0 = 0 := rfl
theorem ms1 {b : Nat} (h : 1 ≤ b) (h2 : b ≤ 33) : msv b = 1 := by unfold msv; rw [if_neg (by omega), if_pos h2]
theorem ms2 {b : Nat} (h : 33 ≤ b) (h2 : b ≤ 127) : msv b = b - 32 := by
  by_cases z : b = 33
  · subst z; rfl
  · unfold msv; rw [if_neg (by omega), if_neg (by omega), if_pos h2]
theorem ms3 {b : Nat} (h : 127 ≤ b) : msv b = 95 := by
  by_cases z : b = 127
  · subst z; rfl
  · unfold msv; rw [if_neg (by omega), if_neg (by omega), if_neg (by omega)]
theorem msy : ∀ b, mcol sy b = msv b
  | 0 => rfl
  | b + 1 => by
    rw [mcol, msy b]
    by_cases h0 : b = 0
    · subst h0; rfl
    · by_cases h1 : b < 33
      · rw [ms1 (by omega) (by omega), sy0 h1, ms1 (by omega) (by omega), if_pos (by omega)]
      · by_cases h2 : b ≤ 126
        · rw [ms2 (by omega) (by omega), sy1 (by omega) h2, ms2 (by omega) (by omega), if_neg (by omega)]; omega
        · rw [ms3 (by omega), sy2 (by omega), ms3 (by omega), if_pos (by omega)]
theorem cols_sy : ColsOK sy 95 := by
  refine ⟨fun b hb' => ?_, ?_⟩
  · rw [msy b]
    by_cases h1 : b < 33
    · rw [sy0 h1]; omega
    · by_cases h2 : b ≤ 126
      · rw [ms2 (by omega) (by omega), sy1 (by omega) h2]; omega
      · rw [sy2 (by omega)]; omega
  · rw [msy 256]; rfl
theorem mcol_le {b : Nat} (hb' : b ≤ 256) : mcol sy b ≤ 95 := by
  have := mcol_mono sy b 256 hb'
  rw [cols_sy.2] at this
  exact this
section COL
variable {P fu : Nat} {R vB : Nat → Int64}
/-! the class -/
def RG (R : Nat → Int64) (n : Nat) (q : VQ) (cc : Int32) (co : Nat → Int32) (rc : Nat → Int64) : Prop := cc = nI q.1 ∧ (∀ k, k < q.1 → rc k = R (q.2.2 k)) ∧ ∀ t, t < n → ∃ v, q.2.1 (key R t) = some v ∧ co t = nI v
theorem gl_loop {n : Nat} (hn : n ≤ 95) {rc : Nat → Int64} {x : Int64} (k0 k1 : Int32 → Option (Int32 × Int32 × (Nat → Int64))) {u : Nat} (hu : u ≤ n) : ∀ (d t f : Nat), t + d = u → d < f → (∀ j, t ≤ j → j < u → ¬ rc j = x) → (u = n → f_Union_columnFor_L2 (nI n) rc x k0 k1 f (nI t) = k0 (nI u)) ∧ (u < n → rc u = x → f_Union_columnFor_L2 (nI n) rc x k0 k1 f (nI t) = k1 (nI u))
  | 0, t, f, ht, hf, hq => by
    obtain ⟨f, rfl⟩ : ∃ g, f = g + 1 := ⟨f - 1, by omega⟩
    have : t = u := by omega
    subst this
    rw [f_Union_columnFor_L2_s]
    refine ⟨fun e => ?_, fun e1 e2 => ?_⟩
    · subst e
      exact ifT (nI_le (Nat.le_refl _) (by omega))
    · have q95 : ¬ (95 : Int32) ≤ nI t := nI_ge (b := 95) (by omega) (by decide)
      rw [ifF (nI_ge e1 (by omega)), ifF q95, ifT (inB_nI (by omega) (by omega)), nI_clamp (by omega), ifT ((lg_cmp0 _ _).mpr e2)]
  | d + 1, t, f, ht, hf, hq => by
    obtain ⟨f, rfl⟩ : ∃ g, f = g + 1 := ⟨f - 1, by omega⟩
    have q95 : ¬ (95 : Int32) ≤ nI t := nI_ge (b := 95) (by omega) (by decide)
    rw [f_Union_columnFor_L2_s, ifF (nI_ge (by omega) (by omega)), ifF q95, ifT (inB_nI (by omega) (by omega)), nI_clamp (by omega), ifF (fun q => hq t (Nat.le_refl _) (by omega) ((lg_cmp0 _ _).mp q)), nI_1]
    exact gl_loop hn k0 k1 hu d (t + 1) f (by omega) (by omega) (fun j a b => hq j (by omega) b)
theorem cf_old (hfu : 200 ≤ fu) {n v : Nat} {x : Int64} {rc : Nat → Int64} (hn : n ≤ 95) (hv : v < n) (hx : rc v = x) (hno : ∀ j, 0 ≤ j → j < v → ¬ rc j = x) : f_Union_columnFor fu x (nI n) rc = some (nI v, nI n, rc) := by
  unfold f_Union_columnFor
  exact (gl_loop hn _ _ (by omega) v 0 fu (by omega) (by omega) hno).2 hv hx
theorem cf_new (hfu : 200 ≤ fu) {n : Nat} {x : Int64} {rc : Nat → Int64} (hn : n < 95) (hno : ∀ j, 0 ≤ j → j < n → ¬ rc j = x) : f_Union_columnFor fu x (nI n) rc = some (nI n, nI (n + 1), vp_updL rc n x) := by
  unfold f_Union_columnFor
  refine Eq.trans ((gl_loop (by omega) _ _ (Nat.le_refl _) n 0 fu (by omega) (by omega) hno).1 rfl) ?_
  have q : nI n < (95 : Int32) := nI_lt (b := 95) hn (by decide)
  have es : nI (n + 1) - 1 = nI n := pk_sub (b := 1) (by omega)
  show f_Union_columnFor_J35 x (nI n) rc = _
  unfold f_Union_columnFor_J35
  rw [ifT q, ifT (inB_nI hn (by omega)), nI_clamp (by omega), nI_1, es]
theorem gs_loop (hfu : 200 ≤ fu) (kk : Int32 → Int32 → (Nat → Int32) → (Nat → Int64) → Option (Int32 × (Nat → Int32) × (Nat → Int64))) : ∀ (d s f : Nat) (cc : Int32) (co : Nat → Int32) (rc : Nat → Int64), s + d = 95 → d < f → RG R s (visN (key R) (fun s => s) q0 s) cc co rc →
    ∃ (cc' : Int32) (co' : Nat → Int32) (rc' : Nat → Int64), f_Union_groupSymbols_L7 R fu kk f (nI s) cc co rc = kk (nI 95) cc' co' rc' ∧ RG R 95 (visN (key R) (fun s => s) q0 95) cc' co' rc'
  | 0, s, f, cc, co, rc, hd, hf, hR => by
    obtain ⟨f, rfl⟩ : ∃ g, f = g + 1 := ⟨f - 1, by omega⟩
    have : s = 95 := by omega
    subst this
    rw [f_Union_groupSymbols_L7_s]
    exact ⟨cc, co, rc, ifT (nI_le (a := 95) (Nat.le_refl _) (by omega)), hR⟩
  | d + 1, s, f, cc, co, rc, hd, hf, hR => by
    obtain ⟨f, rfl⟩ : ∃ g, f = g + 1 := ⟨f - 1, by omega⟩
    obtain ⟨h1, h2, h3⟩ := hR
    have hW := WV.visN (M := 95) (kn := key R) s (by omega)
    have hle := visN_le (kn := key R) s
    have hstep : visN (key R) (fun s => s) q0 (s + 1) = vis (key R) s (visN (key R) (fun s => s) q0 s) := rfl
    have q95 : ¬ (95 : Int32) ≤ nI s := nI_ge (b := 95) (by omega) (by decide)
    have hin : inB (nI s) 95 = true := inB_nI (by omega) (by omega)
    generalize visN (key R) (fun s => s) q0 s = q at h1 h2 h3 hW hle hstep
    subst h1
    cases hq : q.2.1 (key R s) with
    | some v =>
      obtain ⟨v1, v2⟩ := hW.2 _ _ hq
      have hrv : rc v = R s := by rw [h2 v v1]; exact key_eq.mp v2
      have hno : ∀ j, 0 ≤ j → j < v → ¬ rc j = R s := fun j _ hj e => by
        rw [h2 j (by omega)] at e
        have := (hW.1 j (by omega)).2
        rw [key_eq.mpr e, hq] at this
        cases this
        omega
      have e : f_Union_groupSymbols_L7 R fu kk (f + 1) (nI s) (nI q.1) co rc = f_Union_groupSymbols_L7 R fu kk f (nI (s + 1)) (nI q.1) (upd co s (nI v)) rc := by
        rw [f_Union_groupSymbols_L7_s, ifF q95, ifT hin, nI_clamp (by omega), cf_old hfu (by omega) v1 hrv hno]
        show (if inB (nI s) 95 = true then f_Union_groupSymbols_L7 R fu kk f (nI s + 1) (nI q.1) (upd co s (nI v)) rc else none) = _
        rw [ifT hin, nI_1]
      rw [e]
      refine gs_loop hfu kk d (s + 1) f _ _ _ (by omega) (by omega) ?_
      rw [hstep, vis_some hq]
      refine ⟨rfl, h2, fun t ht => ?_⟩
      by_cases z : t = s
      · subst z; exact ⟨v, hq, by rw [pk_us]⟩
      · rw [pk_un z]; exact h3 t (by omega)
    | none =>
      have hno : ∀ j, 0 ≤ j → j < q.1 → ¬ rc j = R s := fun j _ hj e => by
        rw [h2 j hj] at e
        have := (hW.1 j hj).2
        rw [key_eq.mpr e, hq] at this
        cases this
      have e : f_Union_groupSymbols_L7 R fu kk (f + 1) (nI s) (nI q.1) co rc = f_Union_groupSymbols_L7 R fu kk f (nI (s + 1)) (nI (q.1 + 1)) (upd co s (nI q.1)) (vp_updL rc q.1 (R s)) := by
        rw [f_Union_groupSymbols_L7_s, ifF q95, ifT hin, nI_clamp (by omega), cf_new hfu (by omega) hno]
        show (if inB (nI s) 95 = true then f_Union_groupSymbols_L7 R fu kk f (nI s + 1) (nI (q.1 + 1)) (upd co s (nI q.1)) (vp_updL rc q.1 (R s)) else none) = _
        rw [ifT hin, nI_1]
      rw [e]
      refine gs_loop hfu kk d (s + 1) f _ _ _ (by omega) (by omega) ?_
      rw [hstep, vis_none hq]
      refine ⟨rfl, fun k hk => ?_, fun t ht => ?_⟩
      · have hk' : k < q.1 + 1 := hk
        show vp_updL rc q.1 (R s) k = R (va_up q.2.2 q.1 s k)
        by_cases z : k = q.1
        · subst z; rw [pk_uLs, up_s]
        · rw [pk_uLn z, up_n z]; exact h2 k (by omega)
      · show ∃ v, va_up q.2.1 (key R s) (some q.1) (key R t) = some v ∧ upd co s (nI q.1) t = nI v
        by_cases z : t = s
        · subst z; exact ⟨q.1, by rw [up_s], by rw [pk_us]⟩
        · obtain ⟨v, v1, v2⟩ := h3 t (by omega)
          refine ⟨v, ?_, by rw [pk_un z]; exact v2⟩
          rw [up_n (fun e => by rw [e, hq] at v1; cases v1)]
          exact v1
/-! the reference -/
theorem cq_loop (hP : P ≤ 60) {b e k : Nat} (hb' : b < 256) (he : e < 256) (hk : k < 96) {ex : Nat → Int32} (hex : ex k = nI e) (kk : Int32 → Int32 → Option (Int32 × (Nat → Int32) × (Nat → Int32))) : ∀ (d p f : Nat), p + d = P → d + 1 < f → ((∀ x, p ≤ x → x < P → hb vB x b = hb vB x e) → f_M_classify_L33 (nI P) vB (nI b) ex (nI k) kk f (nI p) 1 = kk (nI P) 1) ∧ ((¬ ∀ x, p ≤ x → x < P → hb vB x b = hb vB x e) → ∃ x, f_M_classify_L33 (nI P) vB (nI b) ex (nI k) kk f (nI p) 1 = kk x 0)
  | 0, p, f, hp, hf => by
    obtain ⟨f, rfl⟩ : ∃ g, f = g + 1 := ⟨f - 1, by omega⟩
    have : p = P := by omega
    subst this
    rw [f_M_classify_L33_s, ifT (nI_le (Nat.le_refl _) (by omega))]
    exact ⟨fun _ => rfl, fun h => absurd (fun x a b => by omega) h⟩
  | d + 1, p, f, hp, hf => by
    obtain ⟨f, rfl⟩ : ∃ g, f = g + 1 := ⟨f - 1, by omega⟩
    obtain ⟨ih1, ih2⟩ := cq_loop hP hb' he hk hex kk d (p + 1) f (by omega) (by omega)
    have mv : (∀ x, p ≤ x → x < P → hb vB x b = hb vB x e) ↔ hb vB p b = hb vB p e ∧ ∀ x, p + 1 ≤ x → x < P → hb vB x b = hb vB x e := by
      constructor
      · intro h; exact ⟨h p (Nat.le_refl _) (by omega), fun x a b => h x (by omega) b⟩
      · rintro ⟨h1, h2⟩ x a b
        by_cases z : x = p
        · subst z; exact h1
        · exact h2 x (by omega) b
    rw [mv]
    have e1 : f_M_classify_L33 (nI P) vB (nI b) ex (nI k) kk (f + 1) (nI p) 1 = if (if hb vB p b = true then (1 : Int32) else 0) = (if hb vB p e = true then (1 : Int32) else 0) then f_M_classify_L33 (nI P) vB (nI b) ex (nI k) kk f (nI (p + 1)) 1 else f_M_classify_L33 (nI P) vB (nI b) ex (nI k) kk f (nI (p + 1)) 0 := by
      rw [f_M_classify_L33_s, ifF (nI_ge (by omega) (by omega)), ifF (by decide), has_eq (by omega) hb']
      show (if inB (nI k) 96 = true then (Option.bind (f_M_hasByte (nI p) (ex (nI k).toNatClampNeg) vB) fun r8 => (if (if hb vB p b = true then (1 : Int32) else 0) = r8 then (f_M_classify_L33 (nI P) vB (nI b) ex (nI k) kk f (nI p + 1) (1 : Int32)) else (f_M_classify_L33 (nI P) vB (nI b) ex (nI k) kk f (nI p + 1) (0 : Int32)))) else none) = _
      rw [ifT (inB_nI hk (by omega)), nI_clamp (by omega), hex, has_eq (by omega) he, nI_1]
      rfl
    rw [e1]
    by_cases h : hb vB p b = hb vB p e
    · rw [ifT (by rw [h])]
      exact ⟨fun g => ih1 g.2, fun g => ih2 (fun g' => g ⟨h, g'⟩)⟩
    · rw [ifF (by
        intro z
        apply h
        cases h1 : hb vB p b <;> cases h2 : hb vB p e <;> rw [h1, h2] at z <;> first | rfl | (exact absurd z (by decide)))]
      refine ⟨fun g => absurd g.1 h, fun _ => ?_⟩
      obtain ⟨f, rfl⟩ : ∃ g, f = g + 1 := ⟨f - 1, by omega⟩
      rw [f_M_classify_L33_s]
      by_cases z : nI P ≤ nI (p + 1)
      · exact ⟨_, ifT z⟩
      · exact ⟨_, (ifF z).trans (ifT rfl)⟩
theorem dn_sub (c : Nat) (hc : c < 2 ^ 31) : nI c - 1 = dn c := by
  cases c with
  | zero => rfl
  | succ c => exact pk_sub (b := 1) (by omega)
theorem ck_loop (hP : P ≤ 60) (hfu : 100 ≤ fu) (hRD : RDok P R vB) {b : Nat} (hb' : b < 256) {ex : Nat → Int32} {eN : Nat → Nat} {n : Nat} (hn : n ≤ 95) (hex : ∀ k, k < n → ex k = nI (eN k) ∧ eN k < 256) (kk : Int32 → Int32 → Option (Int32 × (Nat → Int32) × (Nat → Int32))) : ∀ (c f : Nat) (l2 : Int32), c ≤ n → c < f →
    (∀ v, v < c → R (sy (eN v)) = R (sy b) → (∀ k, k < c → ¬ k = v → ¬ R (sy (eN k)) = R (sy b)) → f_M_classify_L23 (nI P) vB (nI b) ex fu kk f (dn c) l2 = kk (-1) (nI v)) ∧ ((∀ k, k < c → ¬ R (sy (eN k)) = R (sy b)) → f_M_classify_L23 (nI P) vB (nI b) ex fu kk f (dn c) l2 = kk (-1) l2)
  | 0, f, l2, hc, hf => by
    obtain ⟨f, rfl⟩ : ∃ g, f = g + 1 := ⟨f - 1, by omega⟩
    refine ⟨fun v hv => absurd hv (Nat.not_lt_zero _), fun _ => ?_⟩
    rw [f_M_classify_L23_s]
    exact ifT (by decide)
  | c + 1, f, l2, hc, hf => by
    obtain ⟨f, rfl⟩ : ∃ g, f = g + 1 := ⟨f - 1, by omega⟩
    obtain ⟨he1, he2⟩ := hex c (by omega)
    obtain ⟨g1, g2⟩ := cq_loop (vB := vB) hP hb' he2 (show c < 96 by omega) he1 (fun l5_33 l4_33 => (if l4_33 = 0 then (f_M_classify_L23 (nI P) vB (nI b) ex fu kk f (nI c + (-1)) l2) else (f_M_classify_L23 (nI P) vB (nI b) ex fu kk f (nI c + (-1)) (nI c)))) P 0 fu (by omega) (by omega)
    have hiff : (∀ x, 0 ≤ x → x < P → hb vB x b = hb vB x (eN c)) ↔ R (sy (eN c)) = R (sy b) := by
      rw [← RDok.eq hP hRD hb' he2]
      exact ⟨fun h x hx => h x (Nat.zero_le _) hx, fun h x _ hx => h x hx⟩
    have e0 : f_M_classify_L23 (nI P) vB (nI b) ex fu kk (f + 1) (dn (c + 1)) l2 = f_M_classify_L33 (nI P) vB (nI b) ex (nI c) (fun l5_33 l4_33 => (if l4_33 = 0 then (f_M_classify_L23 (nI P) vB (nI b) ex fu kk f (nI c + (-1)) l2) else (f_M_classify_L23 (nI P) vB (nI b) ex fu kk f (nI c + (-1)) (nI c)))) fu (nI 0) 1 := by
      rw [f_M_classify_L23_s]
      exact ifF (nI_pos (by omega))
    rw [e0]
    by_cases h : R (sy (eN c)) = R (sy b)
    · rw [g1 (hiff.mpr h)]
      have e1 : (if (1 : Int32) = 0 then (f_M_classify_L23 (nI P) vB (nI b) ex fu kk f (nI c + (-1)) l2) else (f_M_classify_L23 (nI P) vB (nI b) ex fu kk f (nI c + (-1)) (nI c))) = f_M_classify_L23 (nI P) vB (nI b) ex fu kk f (dn c) (nI c) := by
        rw [ifF (by decide), dn_m1]
      obtain ⟨i1, i2⟩ := ck_loop hP hfu hRD hb' hn hex kk c f (nI c) (by omega) (by omega)
      refine ⟨fun v hv hvR hoth => ?_, fun hall => absurd h (hall c (by omega))⟩
      have : v = c := Classical.byContradiction fun z => hoth c (by omega) (fun q => z q.symm) h
      subst this
      exact Eq.trans e1 (i2 (fun k hk => hoth k (by omega) (by omega)))
    · obtain ⟨x, g2⟩ := g2 (fun q => h (hiff.mp q))
      rw [g2]
      have e1 : (if (0 : Int32) = 0 then (f_M_classify_L23 (nI P) vB (nI b) ex fu kk f (nI c + (-1)) l2) else (f_M_classify_L23 (nI P) vB (nI b) ex fu kk f (nI c + (-1)) (nI c))) = f_M_classify_L23 (nI P) vB (nI b) ex fu kk f (dn c) l2 := by
        rw [ifT rfl, dn_m1]
      obtain ⟨i1, i2⟩ := ck_loop hP hfu hRD hb' hn hex kk c f l2 (by omega) (by omega)
      refine ⟨fun v hv hvR hoth => ?_, fun hall => Eq.trans e1 (i2 (fun k hk => hall k (by omega)))⟩
      have : v ≠ c := fun z => h (z ▸ hvR)
      exact Eq.trans e1 (i1 v (by omega) hvR (fun k hk => hoth k (by omega)))
def RM (R : Nat → Int64) (n : Nat) (q : VQ) (cc : Int32) (cl ex : Nat → Int32) (eN : Nat → Nat) : Prop := cc = nI q.1 ∧ (∀ k, k < q.1 → ex k = nI (eN k) ∧ eN k < 256 ∧ sy (eN k) = q.2.2 k) ∧ ∀ b, b < n → ∃ v, q.2.1 (key R (sy b)) = some v ∧ cl b = nI v
theorem cl_loop (hP : P ≤ 60) (hfu : 200 ≤ fu) (hRD : RDok P R vB) (kk : Int32 → Int32 → (Nat → Int32) → (Nat → Int32) → Option (Int32 × (Nat → Int32) × (Nat → Int32))) : ∀ (d b f : Nat) (cc : Int32) (cl ex : Nat → Int32) (eN : Nat → Nat), b + d = 256 → d < f → RM R b (visN (key R) (fun s => s) q0 (mcol sy b)) cc cl ex eN →
    ∃ (cc' : Int32) (cl' ex' : Nat → Int32) (eN' : Nat → Nat), f_M_classify_L7 (nI P) vB fu kk f (nI b) cc cl ex = kk (nI 256) cc' cl' ex' ∧ RM R 256 (visN (key R) (fun s => s) q0 95) cc' cl' ex' eN'
  | 0, b, f, cc, cl, ex, eN, hd, hf, hR => by
    obtain ⟨f, rfl⟩ : ∃ g, f = g + 1 := ⟨f - 1, by omega⟩
    have : b = 256 := by omega
    subst this
    rw [cols_sy.2] at hR
    rw [f_M_classify_L7_s]
    exact ⟨cc, cl, ex, eN, ifT (nI_le (a := 256) (Nat.le_refl _) (by omega)), hR⟩
  | d + 1, b, f, cc, cl, ex, eN, hd, hf, hR => by
    obtain ⟨f, rfl⟩ : ∃ g, f = g + 1 := ⟨f - 1, by omega⟩
    obtain ⟨h1, h2, h3⟩ := hR
    have hb' : b < 256 := by omega
    have hml := mcol_le (b := b) (by omega)
    have hW := WV.visN (M := 95) (kn := key R) (mcol sy b) hml
    have hle := visN_le (kn := key R) (mcol sy b)
    have hstep := vis_byte (kn := key R) (xs := fun s => s) (q := q0) cols_sy hb'
    have q256 : ¬ (256 : Int32) ≤ nI b := nI_ge (b := 256) (by omega) (by decide)
    generalize visN (key R) (fun s => s) q0 (mcol sy b) = q at h1 h2 h3 hW hle hstep
    subst h1
    have hex : ∀ k, k < q.1 → ex k = nI (eN k) ∧ eN k < 256 := fun k hk => ⟨(h2 k hk).1, (h2 k hk).2.1⟩
    cases hq : q.2.1 (key R (sy b)) with
    | some v =>
      obtain ⟨v1, v2⟩ := hW.2 _ _ hq
      have hrv : R (sy (eN v)) = R (sy b) := by rw [(h2 v v1).2.2]; exact key_eq.mp v2
      have hno : ∀ j, j < q.1 → ¬ j = v → ¬ R (sy (eN j)) = R (sy b) := fun j hj hne e => by
        rw [(h2 j hj).2.2] at e
        have := (hW.1 j hj).2
        rw [key_eq.mpr e, hq] at this
        cases this
        exact hne rfl
      have e : f_M_classify_L7 (nI P) vB fu kk (f + 1) (nI b) (nI q.1) cl ex = f_M_classify_L7 (nI P) vB fu kk f (nI (b + 1)) (nI q.1) (upd cl b (nI v)) ex := by
        rw [f_M_classify_L7_s, ifF q256, dn_sub q.1 (by omega)]
        refine Eq.trans ((ck_loop hP (by omega) hRD hb' (by omega) hex _ q.1 fu (-1) (Nat.le_refl _) (by omega)).1 v v1 hrv hno) ?_
        show (if 0 ≤ nI v then (if inB (nI b) 256 = true then f_M_classify_L7 (nI P) vB fu kk f (nI b + 1) (nI q.1) (upd cl (nI b).toNatClampNeg (nI v)) ex else none) else _) = _
        rw [ifT (nI_pos' (by omega)), ifT (inB_nI (by omega) (by omega)), nI_clamp (by omega), nI_1]
      rw [e]
      refine cl_loop hP hfu hRD kk d (b + 1) f _ _ _ eN (by omega) (by omega) ?_
      rw [← hstep]
      show RM R (b + 1) (vis (key R) (sy b) q) _ _ _ _
      rw [vis_some hq]
      refine ⟨rfl, h2, fun t ht => ?_⟩
      by_cases z : t = b
      · subst z; exact ⟨v, hq, by rw [pk_us]⟩
      · rw [pk_un z]; exact h3 t (by omega)
    | none =>
      have hno : ∀ j, j < q.1 → ¬ R (sy (eN j)) = R (sy b) := fun j hj e => by
        rw [(h2 j hj).2.2] at e
        have := (hW.1 j hj).2
        rw [key_eq.mpr e, hq] at this
        cases this
      have e : f_M_classify_L7 (nI P) vB fu kk (f + 1) (nI b) (nI q.1) cl ex = f_M_classify_L7 (nI P) vB fu kk f (nI (b + 1)) (nI (q.1 + 1)) (upd cl b (nI q.1)) (upd ex q.1 (nI b)) := by
        rw [f_M_classify_L7_s, ifF q256, dn_sub q.1 (by omega)]
        refine Eq.trans ((ck_loop hP (by omega) hRD hb' (by omega) hex _ q.1 fu (-1) (Nat.le_refl _) (by omega)).2 hno) ?_
        show (if (0 : Int32) ≤ -1 then _ else (if inB (nI q.1) 96 = true then (if inB (nI b) 256 = true then f_M_classify_L7 (nI P) vB fu kk f (nI b + 1) (nI q.1 + 1) (upd cl (nI b).toNatClampNeg (nI q.1)) (upd ex (nI q.1).toNatClampNeg (nI b)) else none) else none)) = _
        rw [ifF (by decide), ifT (inB_nI (by omega) (by omega)), ifT (inB_nI (by omega) (by omega)), nI_clamp (by omega), nI_clamp (by omega), nI_1, nI_1]
      rw [e]
      refine cl_loop hP hfu hRD kk d (b + 1) f _ _ _ (va_up eN q.1 b) (by omega) (by omega) ?_
      rw [← hstep]
      show RM R (b + 1) (vis (key R) (sy b) q) _ _ _ _
      rw [vis_none hq]
      refine ⟨rfl, fun k hk => ?_, fun t ht => ?_⟩
      · have hk' : k < q.1 + 1 := hk
        show upd ex q.1 (nI b) k = nI (va_up eN q.1 b k) ∧ va_up eN q.1 b k < 256 ∧ sy (va_up eN q.1 b k) = va_up q.2.2 q.1 (sy b) k
        by_cases z : k = q.1
        · subst z; rw [pk_us, up_s, up_s]; exact ⟨rfl, hb', rfl⟩
        · rw [pk_un z, up_n z, up_n z]; exact h2 k (by omega)
      · show ∃ v, va_up q.2.1 (key R (sy b)) (some q.1) (key R (sy t)) = some v ∧ upd cl b (nI q.1) t = nI v
        by_cases z : t = b
        · subst z; exact ⟨q.1, by rw [up_s], by rw [pk_us]⟩
        · obtain ⟨v, v1, v2⟩ := h3 t (by omega)
          refine ⟨v, ?_, by rw [pk_un z]; exact v2⟩
          rw [up_n (fun e => by rw [e, hq] at v1; cases v1)]
          exact v1
theorem cols_num (R : Nat → Int64) {co : Nat → Nat} (hco : ∀ b, b < 256 → (visN (key R) (fun s => s) q0 95).2.1 (key R (sy b)) = some (co b)) : ∀ b, b ≤ 256 → mcol co b = (visN (key R) (fun s => s) q0 (mcol sy b)).1 ∧ ∀ b', b' < b → co b' ≤ mcol co b'
  | 0, _ => ⟨rfl, fun b' h => absurd h (Nat.not_lt_zero _)⟩
  | b + 1, hb' => by
    obtain ⟨ih1, ih2⟩ := cols_num R hco b (by omega)
    have hml := mcol_le (b := b) (by omega)
    have hW := WV.visN (M := 95) (kn := key R) (mcol sy b) hml
    have hstep := vis_byte (kn := key R) (xs := fun s => s) (q := q0) cols_sy (show b < 256 by omega)
    have hc := hco b (by omega)
    have hboth : mcol co (b + 1) = (visN (key R) (fun s => s) q0 (mcol sy (b + 1))).1 ∧ co b ≤ mcol co b := by
      rw [← hstep]
      show mcol co (b + 1) = (vis (key R) (sy b) (visN (key R) (fun s => s) q0 (mcol sy b))).1 ∧ _
      cases hq : (visN (key R) (fun s => s) q0 (mcol sy b)).2.1 (key R (sy b)) with
      | some v =>
        have e := visN_keep' hq 95 hml
        rw [hc] at e
        cases e
        have := (hW.2 _ _ hq).1
        rw [vis_some hq, mcol, if_pos (by omega)]
        exact ⟨ih1, by omega⟩
      | none =>
        have hq' : (visN (key R) (fun s => s) q0 (mcol sy (b + 1))).2.1 (key R (sy b)) = some (visN (key R) (fun s => s) q0 (mcol sy b)).1 := by
          rw [← hstep]
          show (vis (key R) (sy b) (visN (key R) (fun s => s) q0 (mcol sy b))).2.1 (key R (sy b)) = _
          rw [vis_none hq]
          exact up_s
        have e := visN_keep' hq' 95 (mcol_le hb')
        rw [hc] at e
        have e' := Option.some.inj e
        rw [vis_none hq, mcol, if_neg (by omega)]
        exact ⟨by rw [ih1], by omega⟩
    refine ⟨hboth.1, fun b' hlt => ?_⟩
    by_cases z : b' = b
    · subst z; exact hboth.2
    · exact ih2 b' (by omega)
/-- columns and classes -/
theorem cols_ok (hP : P ≤ 60) (hfu : 400 ≤ fu) (hRD : RDok P R vB) (zc0 : Nat → Int32) (rc0 : Nat → Int64) (cl0 ex0 : Nat → Int32) :
    ∃ (C : Nat) (co rep : Nat → Nat) (zcol : Nat → Int32) (rc : Nat → Int64) (vcl vex : Nat → Int32), C ≤ 95 ∧ ColsOK co C ∧ f_Union_groupSymbols fu R zc0 rc0 = some (nI C, zcol, rc) ∧ f_M_classify fu (nI P) vB cl0 ex0 = some (nI C, vcl, vex) ∧ (∀ b, b < 256 → zcol (sy b) = nI (co b)) ∧ (∀ b, b < 256 → vcl b = nI (co b)) ∧ ∀ c, c < C → vex c = nI (rep c) ∧ rep c < 256 ∧ rc c = R (sy (rep c)) := by
  obtain ⟨cc, zcol, rc, g1, g2, g3, g4⟩ := gs_loop (R := R) (by omega : 200 ≤ fu) (fun l1_7 zz_columnCount_7 zz_columnOf_7 zz_readersOfColumn_7 => some (zz_columnCount_7, zz_columnOf_7, zz_readersOfColumn_7)) 95 0 fu 0 zc0 rc0 (by omega) (by omega) ⟨rfl, fun k hk => absurd hk (Nat.not_lt_zero _), fun t ht => absurd ht (Nat.not_lt_zero _)⟩
  obtain ⟨cm, vcl, vex, eN, m1, m2, m3, m4⟩ := cl_loop hP (by omega : 200 ≤ fu) hRD (fun l1_7 v_classes_7 v_classOf_7 v_example_7 => some (v_classes_7, v_classOf_7, v_example_7)) 256 0 fu 0 cl0 ex0 (fun _ => 0) (by omega) (by omega) ⟨rfl, fun k hk => absurd hk (Nat.not_lt_zero _), fun t ht => absurd ht (Nat.not_lt_zero _)⟩
  subst g2 m2
  have hle := visN_le (kn := key R) 95
  have hco : ∀ b, b < 256 → (visN (key R) (fun s => s) q0 95).2.1 (key R (sy b)) = some (((visN (key R) (fun s => s) q0 95).2.1 (key R (sy b))).getD 0) := fun b hb' => by
    obtain ⟨v, v1, v2⟩ := g4 (sy b) (sy_lt b)
    rw [v1]
    rfl
  have hnum := cols_num R hco 256 (by omega)
  refine ⟨(visN (key R) (fun s => s) q0 95).1, fun b => ((visN (key R) (fun s => s) q0 95).2.1 (key R (sy b))).getD 0, eN, zcol, rc, vcl, vex, hle, ⟨hnum.2, ?_⟩, g1, m1, fun b hb' => ?_, fun b hb' => ?_, fun c hc => ?_⟩
  · rw [hnum.1, cols_sy.2]
  · obtain ⟨v, v1, v2⟩ := g4 (sy b) (sy_lt b)
    show zcol (sy b) = nI (((visN (key R) (fun s => s) q0 95).2.1 (key R (sy b))).getD 0)
    rw [v1]; exact v2
  · obtain ⟨v, v1, v2⟩ := m4 b hb'
    show vcl b = nI (((visN (key R) (fun s => s) q0 95).2.1 (key R (sy b))).getD 0)
    rw [v1]; exact v2
  · obtain ⟨a, b, c'⟩ := m3 c hc
    exact ⟨a, b, by rw [c']; exact g3 c hc⟩
end COL
