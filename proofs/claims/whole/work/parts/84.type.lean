/-! pure base, and promise 2: type -/
theorem inB_nI {j n : Nat} (h : j < n) (hn : n < 2 ^ 31) : inB (nI j) n = true := by
  unfold inB
  rw [nI_clamp (by omega)]
  simp [nI_pos (n := j) (by omega), h]
theorem inB_iff {i : Int32} {n : Nat} (h : inB i n = true) (hn : n < 2 ^ 31) : ∃ j, j < n ∧ i = nI j := vp_in_of (inB_in h) hn
theorem ifT {α : Type} {c : Prop} {d : Decidable c} {a b : α} (h : c) : (@ite α c d a b) = a := if_pos h
theorem ifF {α : Type} {c : Prop} {d : Decidable c} {a b : α} (h : ¬ c) : (@ite α c d a b) = b := if_neg h
/-- byte k of a word -/
def by_ (w : Int32) (k : Nat) : Int32 := (jushr w ((8 : Int32) * nI k)) &&& 255
theorem by_eq (w : Int32) : ∀ k, k < 4 → (w >>> (((8 : Int32) * nI k) &&& 31)) &&& 255 = by_ w k := by
  intro k hk
  have e : (8 : Int32) * nI k = nI (8 * k) := pk_mul 8 k
  unfold by_
  rw [e]
  apply b_ext
  intro i hi
  rw [b_and, b_and, b_255, b_sshr (8 * k) (by omega) _ hi]
  show _ = (bt ((w.toUInt32 >>> ((nI (8 * k)).toUInt32 &&& Int32.toUInt32 31)).toInt32) i && _)
  rw [b_ushr (8 * k) (by omega)]
  by_cases h8 : i < 8
  · rw [if_pos (by omega)]
  · simp [h8]
theorem by_nat (w : Int32) (k : Nat) : ∃ j, j < 256 ∧ by_ w k = nI j := by
  obtain ⟨j, h1, h2⟩ := pk_andE (jushr w ((8 : Int32) * nI k)) (m := 255) 8 (by decide)
  exact ⟨j, h1, h2⟩
/-- a character that may be typed -/
def okc (c : Int32) : Prop := ¬ c < 33 ∧ c ≤ 126
theorem okc_char {c : Int32} (h : okc c) : ji2c c = c ∧ vp_nar .char c = c := by
  obtain ⟨j, hj, rfl⟩ := nI_of2 (x := c) (M := 126) (n := 126) (by decide) (fun q => h.1 (by
    have := Int32.lt_iff_toInt_lt.mp q
    rw [Int32.lt_iff_toInt_lt]
    have e : (33 : Int32).toInt = 33 := by decide
    have e0 : (0 : Int32).toInt = 0 := by decide
    omega)) h.2
  have := pk_charN (q := j) (by omega)
  refine ⟨?_, ?_⟩
  · show ((nI j).toUInt32 % 65536).toInt32 = nI j
    rw [pk_char, pk_tn (by omega), Nat.mod_eq_of_lt (by omega)]
  · unfold vp_nar
    rw [this.1]
theorem in_eq (v lo hi : Int32) : f_M_in v lo hi = some (if v < lo then 0 else if hi < v then 0 else 1) := by
  unfold f_M_in
  by_cases h1 : v < lo
  · simp [h1]
  · by_cases h2 : hi < v
    · simp [h1, h2]
    · simp [h1, h2]
/-- counting down: c places are left -/
def dn : Nat → Int32
  | 0 => -1
  | c + 1 => nI c
theorem dn_lt (c : Nat) (h : c < 2 ^ 31) : dn c < 0 ↔ c = 0 := by
  cases c with
  | zero => simp [dn]
  | succ c =>
    simp only [dn]
    constructor
    · intro q; exact absurd q (nI_pos (by omega))
    · intro q; omega
theorem dn_m1 (c : Nat) : nI c + (-1) = dn c := by
  cases c with
  | zero => decide
  | succ c => exact pk_m1 c
/-- the bytes c - 1 .. 0 of a word, written from place len on -/
def wr (w : Int32) : Nat → Nat → (Nat → Int32) → (Nat → Int32)
  | 0, _, ch => ch
  | c + 1, len, ch => wr w c (len + 1) (upd ch len (by_ w c))
theorem wr_eq (w : Int32) : ∀ (c len : Nat) (a b : Nat → Int32), (∀ j, j < c → okc (by_ w j)) → (∀ j, j < len → a j = b j ∧ okc (b j)) → ∀ j, j < len + c → wr w c len a j = wr w c len b j ∧ okc (wr w c len b j)
  | 0, len, a, b, _, h => fun j hj => h j hj
  | c + 1, len, a, b, ho, h => by
    intro j hj
    refine wr_eq w c (len + 1) (upd a len (by_ w c)) (upd b len (by_ w c)) (fun j hj => ho j (by omega)) (fun j hj => ?_) j (by omega)
    by_cases e : j = len
    · subst e; rw [pk_us, pk_us]; exact ⟨rfl, ho c (by omega)⟩
    · rw [pk_un e, pk_un e]; exact h j (by omega)
theorem wrC (w : Int32) (kk : Int32 → Int32 → (Nat → Int32) → Option (Int32 × Int32 × (Nat → Int32))) : ∀ (c f len : Nat) (ch : Nat → Int32), c < f → len + c ≤ 40 → (∀ j, j < c → okc (by_ w j)) → f_Typed_append_L66 w kk f (dn c) (nI len) ch = kk (-1) (nI (len + c)) (wr w c len ch)
  | 0, f, len, ch, hf, hl, ho => by
    obtain ⟨f, rfl⟩ : ∃ g, f = g + 1 := ⟨f - 1, by omega⟩
    rw [f_Typed_append_L66_s, ifT ((dn_lt 0 (by omega)).mpr rfl)]
    rfl
  | c + 1, f, len, ch, hf, hl, ho => by
    obtain ⟨f, rfl⟩ : ∃ g, f = g + 1 := ⟨f - 1, by omega⟩
    rw [f_Typed_append_L66_s, ifF (fun q => by have := (dn_lt (c + 1) (by omega)).mp q; omega)]
    show (if inB (nI len) 40 = true then f_Typed_append_L66 w kk f (nI c + (-1)) (nI len + 1) (upd ch (nI len).toNatClampNeg (vp_nar .char (ji2c (by_ w c)))) else none) = _
    have hc := okc_char (ho c (by omega))
    rw [ifT (inB_nI (by omega) (by omega)), nI_clamp (by omega), hc.1, hc.2, dn_m1, nI_1, wrC w kk c f (len + 1) _ (by omega) (by omega) (fun j hj => ho j (by omega))]
    rw [show len + 1 + c = len + (c + 1) by omega]
    rfl
theorem chkC (w : Int32) {n : Nat} (hn : n ≤ 4) (k0 k1 : Int32 → Option (Int32 × Int32 × (Nat → Int32))) : ∀ (d i f : Nat), i + d = n → d < f → ((∀ j, i ≤ j → j < n → okc (by_ w j)) → f_Typed_append_L28 w (nI n) k0 k1 f (nI i) = k0 (nI n)) ∧ ((¬ ∀ j, i ≤ j → j < n → okc (by_ w j)) → ∃ j, f_Typed_append_L28 w (nI n) k0 k1 f (nI i) = k1 j)
  | 0, i, f, hi, hf => by
    obtain ⟨f, rfl⟩ : ∃ g, f = g + 1 := ⟨f - 1, by omega⟩
    have : i = n := by omega
    subst this
    rw [f_Typed_append_L28_s, ifT (nI_le (Nat.le_refl _) (by omega))]
    exact ⟨fun _ => rfl, fun h => absurd (fun j h1 h2 => by omega) h⟩
  | d + 1, i, f, hi, hf => by
    obtain ⟨f, rfl⟩ : ∃ g, f = g + 1 := ⟨f - 1, by omega⟩
    obtain ⟨ih1, ih2⟩ := chkC w hn k0 k1 d (i + 1) f (by omega) (by omega)
    rw [f_Typed_append_L28_s, ifF (nI_ge (by omega) (by omega))]
    show (_ → (if by_ w i < 33 then k1 (nI i) else if by_ w i ≤ 126 then f_Typed_append_L28 w (nI n) k0 k1 f (nI i + 1) else k1 (nI i)) = _) ∧ (_ → ∃ j, (if by_ w i < 33 then k1 (nI i) else if by_ w i ≤ 126 then f_Typed_append_L28 w (nI n) k0 k1 f (nI i + 1) else k1 (nI i)) = _)
    rw [nI_1]
    by_cases h1 : by_ w i < 33
    · rw [ifT h1]
      exact ⟨fun h => absurd h1 (h i (Nat.le_refl _) (by omega)).1, fun _ => ⟨_, rfl⟩⟩
    · rw [ifF h1]
      by_cases h2 : by_ w i ≤ 126
      · rw [ifT h2]
        refine ⟨fun h => ih1 (fun j a b => h j (by omega) b), fun h => ih2 (fun q => h (fun j a b => ?_))⟩
        by_cases e : j = i
        · subst e; exact ⟨h1, h2⟩
        · exact q j (by omega) b
      · rw [ifF h2]
        exact ⟨fun h => absurd (h i (Nat.le_refl _) (by omega)).2 h2, fun _ => ⟨_, rfl⟩⟩
theorem chkM (w : Int32) {n : Nat} (hn : n ≤ 4) (k0 : Int32 → Int32 → Option (Int32 × Int32 × (Nat → Int32))) : ∀ (d i f : Nat), i + d = n → d + 1 < f → ((∀ j, i ≤ j → j < n → okc (by_ w j)) → f_M_type_L29 w (nI n) k0 f (nI i) 1 = k0 (nI n) 1) ∧ ((¬ ∀ j, i ≤ j → j < n → okc (by_ w j)) → ∃ j, f_M_type_L29 w (nI n) k0 f (nI i) 1 = k0 j 0)
  | 0, i, f, hi, hf => by
    obtain ⟨f, rfl⟩ : ∃ g, f = g + 1 := ⟨f - 1, by omega⟩
    have : i = n := by omega
    subst this
    rw [f_M_type_L29_s, ifT (nI_le (Nat.le_refl _) (by omega))]
    exact ⟨fun _ => rfl, fun h => absurd (fun j h1 h2 => by omega) h⟩
  | d + 1, i, f, hi, hf => by
    obtain ⟨f, rfl⟩ : ∃ g, f = g + 1 := ⟨f - 1, by omega⟩
    obtain ⟨ih1, ih2⟩ := chkM w hn k0 d (i + 1) f (by omega) (by omega)
    rw [f_M_type_L29_s, ifF (nI_ge (by omega) (by omega)), ifF (by decide), by_eq w i (by omega), in_eq, nI_1]
    show (_ → f_M_type_L29 w (nI n) k0 f (nI (i + 1)) _ = _) ∧ (_ → ∃ j, f_M_type_L29 w (nI n) k0 f (nI (i + 1)) _ = _)
    have bad : ∀ x, (∃ j, f_M_type_L29 w (nI n) k0 f x 0 = k0 j 0) := fun x => by
      obtain ⟨f, rfl⟩ : ∃ g, f = g + 1 := ⟨f - 1, by omega⟩
      rw [f_M_type_L29_s]
      by_cases q : nI n ≤ x
      · exact ⟨x, by rw [ifT q]⟩
      · exact ⟨x, by rw [ifF q, ifT rfl]⟩
    by_cases h1 : by_ w i < 33
    · rw [ifT h1]
      exact ⟨fun h => absurd h1 (h i (Nat.le_refl _) (by omega)).1, fun _ => bad _⟩
    · rw [ifF h1]
      by_cases h2 : (126 : Int32) < by_ w i
      · rw [ifT h2]
        exact ⟨fun h => absurd (h i (Nat.le_refl _) (by omega)).2 (Int32.not_le.mpr h2), fun _ => bad _⟩
      · rw [ifF h2]
        refine ⟨fun h => ih1 (fun j a b => h j (by omega) b), fun h => ih2 (fun q => h (fun j a b => ?_))⟩
        by_cases e : j = i
        · subst e; exact ⟨h1, Int32.not_lt.mp h2⟩
        · exact q j (by omega) b
theorem wrM (w : Int32) (kk : Int32 → Int32 → (Nat → Int32) → Option (Int32 × Int32 × (Nat → Int32))) : ∀ (c f len : Nat) (ch : Nat → Int32), c ≤ 4 → c < f → len + c ≤ 40 → f_M_type_L69 w 1 kk f (dn c) (nI len) ch = kk (-1) (nI (len + c)) (wr w c len ch)
  | 0, f, len, ch, _, hf, hl => by
    obtain ⟨f, rfl⟩ : ∃ g, f = g + 1 := ⟨f - 1, by omega⟩
    rw [f_M_type_L69_s, ifT ((dn_lt 0 (by omega)).mpr rfl)]
    rfl
  | c + 1, f, len, ch, h4, hf, hl => by
    obtain ⟨f, rfl⟩ : ∃ g, f = g + 1 := ⟨f - 1, by omega⟩
    rw [f_M_type_L69_s, ifF (fun q => by have := (dn_lt (c + 1) (by omega)).mp q; omega), ifF (by decide), ifT (inB_nI (by omega) (by omega))]
    show f_M_type_L69 w 1 kk f (nI c + (-1)) (nI len + 1) (upd ch (nI len).toNatClampNeg ((w >>> (((8 : Int32) * nI c) &&& 31)) &&& 255)) = _
    rw [nI_clamp (by omega), by_eq w c (by omega), dn_m1, nI_1, wrM w kk c f (len + 1) _ (by omega) (by omega) (by omega)]
    rw [show len + 1 + c = len + (c + 1) by omega]
    rfl
/-- what is typed, on both sides -/
def InvT (tt_length : Int32) (tt_ch : Nat → Int32) (v_size : Int32) (v_typed : Nat → Int32) : Prop := ∃ n, n ≤ 40 ∧ tt_length = nI n ∧ v_size = nI n ∧ ∀ j, j < n → tt_ch j = v_typed j ∧ okc (v_typed j)
theorem typeM_bad (w p2 : Int32) (f : Nat) (sz : Int32) (t : Nat → Int32) : f_M_type_J25 w p2 (f + 1) 0 sz t = some (0, sz, t) := by
  have h64 : f_M_type_J64 w p2 (f + 1) 0 sz t = some (0, sz, t) := by
    unfold f_M_type_J64
    rw [f_M_type_L69_s]
    by_cases q : p2 - 1 < 0
    · rw [ifT q]; rfl
    · rw [ifF q, ifT rfl]; rfl
  unfold f_M_type_J25
  rw [f_M_type_L29_s]
  by_cases q : p2 ≤ 0
  · rw [ifT q]; exact h64
  · rw [ifF q, ifT rfl]; exact h64
theorem type_ok {fu : Nat} (hfu : 8 ≤ fu) {tt_length : Int32} {tt_ch : Nat → Int32} {v_size : Int32} {v_typed : Nat → Int32} (h : InvT tt_length tt_ch v_size v_typed) (p1 p2 : Int32) :
    ∃ (r l : Int32) (c : Nat → Int32) (s : Int32) (t : Nat → Int32), f_G_type fu p1 p2 tt_length tt_ch = some (r, l, c) ∧ f_M_type fu p1 p2 v_size v_typed = some (r, s, t) ∧ InvT l c s t := by
  have h0 := h
  obtain ⟨n, hn, rfl, rfl, ht⟩ := h
  obtain ⟨f, rfl⟩ : ∃ g, fu = g + 8 := ⟨fu - 8, by omega⟩
  have bad : f_Typed_append (f + 8) p1 p2 (nI n) tt_ch = some (0, nI n, tt_ch) → f_M_type (f + 8) p1 p2 (nI n) v_typed = some (0, nI n, v_typed) → ∃ (r l : Int32) (c : Nat → Int32) (s : Int32) (t : Nat → Int32), f_G_type (f + 8) p1 p2 (nI n) tt_ch = some (r, l, c) ∧ f_M_type (f + 8) p1 p2 (nI n) v_typed = some (r, s, t) ∧ InvT l c s t := fun e1 e2 => ⟨0, nI n, tt_ch, nI n, v_typed, by unfold f_G_type; rw [e1]; rfl, e2, h0⟩
  by_cases h1 : p2 < 1
  · refine bad ?_ ?_
    · unfold f_Typed_append; rw [ifT h1]; rfl
    · unfold f_M_type f_M_type_J24
      rw [in_eq, ifT h1]
      exact typeM_bad _ _ (f + 7) _ _
  · by_cases h2 : (4 : Int32) < p2
    · refine bad ?_ ?_
      · unfold f_Typed_append; rw [ifF h1, ifT h2]; rfl
      · unfold f_M_type f_M_type_J24
        rw [in_eq, ifF h1, ifT h2]
        exact typeM_bad _ _ (f + 7) _ _
    · obtain ⟨m, hm4, rfl⟩ := nI_of2 (x := p2) (M := 4) (n := 4) (by decide) (fun q => h1 (by
        have e1 : (1 : Int32).toInt = 1 := by decide
        have e0 : (0 : Int32).toInt = 0 := by decide
        have := Int32.lt_iff_toInt_lt.mp q
        rw [Int32.lt_iff_toInt_lt]; omega)) (Int32.not_lt.mp h2)
      have hm1 : 1 ≤ m := by
        refine Nat.pos_of_ne_zero (fun e => h1 ?_)
        subst e; decide
      have hs : nI n + nI m = nI (n + m) := nI_add n m
      by_cases h3 : n + m ≤ 40
      · have c1 : nI (n + m) ≤ 40 := (nI_leI (by omega) (by omega : (40 : Nat) < 2 ^ 31)).mpr h3
        have c2 : ¬ (40 : Int32) < nI (n + m) := Int32.not_lt.mpr c1
        have eC : f_Typed_append (f + 8) p1 (nI m) (nI n) tt_ch = f_Typed_append_L28 p1 (nI m) (fun l3_28 => (f_Typed_append_L66 p1 (fun l3_66 tt_length_66 tt_ch_66 => (if ((1 : Int32) = 0 ∨ (1 : Int32) = 1) then some ((1 : Int32), tt_length_66, tt_ch_66) else none)) (f + 8) (nI m - (1 : Int32)) (nI n) tt_ch)) (fun l3_28 => (if ((0 : Int32) = 0 ∨ (0 : Int32) = 1) then some ((0 : Int32), nI n, tt_ch) else none)) (f + 8) (nI 0) := by
          unfold f_Typed_append
          rw [ifF h1, ifF h2, hs, ifT c1]
          rfl
        have eM : f_M_type (f + 8) p1 (nI m) (nI n) v_typed = f_M_type_L29 p1 (nI m) (fun l4_29 l3_29 => (f_M_type_J64 p1 (nI m) (f + 8) l3_29 (nI n) v_typed)) (f + 8) (nI 0) 1 := by
          unfold f_M_type
          rw [in_eq, ifF h1, ifF h2]
          show (if (1 : Int32) = 0 then f_M_type_J24 p1 (nI m) (f + 8) (nI n) v_typed else if (40 : Int32) < nI n + nI m then f_M_type_J24 p1 (nI m) (f + 8) (nI n) v_typed else f_M_type_J25 p1 (nI m) (f + 8) 1 (nI n) v_typed) = _
          rw [ifF (by decide), hs, ifF c2]
          rfl
        obtain ⟨m', rfl⟩ : ∃ k, m = k + 1 := ⟨m - 1, by omega⟩
        have ed : nI (m' + 1) - 1 = dn (m' + 1) := nI_pred m'
        by_cases hall : ∀ j, 0 ≤ j → j < m' + 1 → okc (by_ p1 j)
        · have a1 := (chkC p1 hm4 (fun l3_28 => (f_Typed_append_L66 p1 (fun l3_66 tt_length_66 tt_ch_66 => (if ((1 : Int32) = 0 ∨ (1 : Int32) = 1) then some ((1 : Int32), tt_length_66, tt_ch_66) else none)) (f + 8) (nI (m' + 1) - (1 : Int32)) (nI n) tt_ch)) (fun l3_28 => (if ((0 : Int32) = 0 ∨ (0 : Int32) = 1) then some ((0 : Int32), nI n, tt_ch) else none)) (m' + 1) 0 (f + 8) (by omega) (by omega)).1 hall
          have a2 := (chkM p1 hm4 (fun l4_29 l3_29 => (f_M_type_J64 p1 (nI (m' + 1)) (f + 8) l3_29 (nI n) v_typed)) (m' + 1) 0 (f + 8) (by omega) (by omega)).1 hall
          refine ⟨1, nI (n + (m' + 1)), wr p1 (m' + 1) n tt_ch, nI (n + (m' + 1)), wr p1 (m' + 1) n v_typed, ?_, ?_, n + (m' + 1), h3, rfl, rfl, wr_eq p1 (m' + 1) n _ _ (fun j hj => hall j (Nat.zero_le _) hj) ht⟩
          · unfold f_G_type
            rw [eC, a1, ed, wrC p1 _ (m' + 1) (f + 8) n tt_ch (by omega) h3 (fun j hj => hall j (Nat.zero_le _) hj)]
            rfl
          · rw [eM, a2]
            unfold f_M_type_J64
            rw [ed, wrM p1 _ (m' + 1) (f + 8) n v_typed (by omega) (by omega) h3]
            rfl
        · obtain ⟨j1, a1⟩ := (chkC p1 hm4 (fun l3_28 => (f_Typed_append_L66 p1 (fun l3_66 tt_length_66 tt_ch_66 => (if ((1 : Int32) = 0 ∨ (1 : Int32) = 1) then some ((1 : Int32), tt_length_66, tt_ch_66) else none)) (f + 8) (nI (m' + 1) - (1 : Int32)) (nI n) tt_ch)) (fun l3_28 => (if ((0 : Int32) = 0 ∨ (0 : Int32) = 1) then some ((0 : Int32), nI n, tt_ch) else none)) (m' + 1) 0 (f + 8) (by omega) (by omega)).2 hall
          obtain ⟨j2, a2⟩ := (chkM p1 hm4 (fun l4_29 l3_29 => (f_M_type_J64 p1 (nI (m' + 1)) (f + 8) l3_29 (nI n) v_typed)) (m' + 1) 0 (f + 8) (by omega) (by omega)).2 hall
          refine bad ?_ ?_
          · rw [eC, a1]; rfl
          · rw [eM, a2]
            unfold f_M_type_J64
            rw [f_M_type_L69_s, ed, ifF (fun q => by have := (dn_lt (m' + 1) (by omega)).mp q; omega), ifT rfl]
            rfl
      · have c2 : (40 : Int32) < nI (n + m) := (nI_ltI (by omega : (40 : Nat) < 2 ^ 31) (by omega)).mpr (by omega)
        refine bad ?_ ?_
        · unfold f_Typed_append; rw [ifF h1, ifF h2, hs, ifF (Int32.not_le.mpr c2)]; rfl
        · unfold f_M_type f_M_type_J24
          rw [in_eq, ifF h1, ifF h2]
          show (if (1 : Int32) = 0 then f_M_type_J25 p1 (nI m) (f + 8) 0 (nI n) v_typed else if (40 : Int32) < nI n + nI m then f_M_type_J25 p1 (nI m) (f + 8) 0 (nI n) v_typed else f_M_type_J25 p1 (nI m) (f + 8) 1 (nI n) v_typed) = _
          rw [ifF (by decide), hs, ifT c2]
          exact typeM_bad _ _ (f + 7) _ _
