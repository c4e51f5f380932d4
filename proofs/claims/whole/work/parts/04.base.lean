/-! pure helpers -/
abbrev jushr (x y : Int32) : Int32 := (x.toUInt32 >>> (y.toUInt32 &&& Int32.toUInt32 31)).toInt32
abbrev jlushr (x : Int64) (y : Int32) : Int64 := (x.toUInt64 >>> (y.toInt64.toUInt64 &&& Int64.toUInt64 63)).toInt64
abbrev jlshl (x : Int64) (y : Int32) : Int64 := x <<< (y.toInt64 &&& 63)
abbrev jlshr (x : Int64) (y : Int32) : Int64 := x >>> (y.toInt64 &&& 63)
abbrev ji2c (x : Int32) : Int32 := (x.toUInt32 % 65536).toInt32
def inB (i : Int32) (n : Nat) : Bool := decide (¬ i < 0) && decide (i.toNatClampNeg < n)
theorem inB_in {i : Int32} {n : Nat} (h : inB i n = true) : vp_in i n := by
  simp only [inB, Bool.and_eq_true, decide_eq_true_eq] at h
  rintro (q | q)
  · exact h.1 q
  · omega
def cpG (sp dp m : Int32) (n0 n1 : Nat) : Bool := decide (¬ sp < 0) && decide (¬ dp < 0) && decide (¬ m < 0) && decide (sp.toNatClampNeg + m.toNatClampNeg ≤ n0) && decide (dp.toNatClampNeg + m.toNatClampNeg ≤ n1)
theorem cpG_in {sp dp m : Int32} {n0 n1 : Nat} (h : cpG sp dp m n0 n1 = true) : ¬ sp < 0 ∧ ¬ dp < 0 ∧ ¬ m < 0 ∧ sp.toNatClampNeg + m.toNatClampNeg ≤ n0 ∧ dp.toNatClampNeg + m.toNatClampNeg ≤ n1 := by
  simp only [cpG, Bool.and_eq_true, decide_eq_true_eq] at h
  exact ⟨h.1.1.1.1, h.1.1.1.2, h.1.1.2, h.1.2, h.2⟩
theorem nz_bool {z : Int32} (h : z = 0 ∨ z = 1) : narrow .boolean (.int z) = .int z := by rcases h with rfl | rfl <;> rfl
theorem fz_bool {z : Int32} (h : z = 0 ∨ z = 1) : fits .boolean (.int z) = true := by rcases h with rfl | rfl <;> rfl
theorem nz_char {z : Int32} (h : ji2c z = z) : narrow .char (.int z) = .int z := by rw [← h]; exact pk_nc z
theorem fz_char {z : Int32} (h : ji2c z = z) : fits .char (.int z) = true := by rw [← h]; exact pk_fc z
theorem gd1 {α : Type} {G : Prop} {T : Option α} {x : α} {dG : Decidable G} (h : (@ite _ G dG T none) = some x) : G := by
  by_cases g : G
  · exact g
  · rw [if_neg g] at h; cases h
theorem gd2 {α : Type} {G : Prop} {T : Option α} {x : α} {dG : Decidable G} (h : (@ite _ G dG T none) = some x) : T = some x := by
  by_cases g : G
  · rw [if_pos g] at h; exact h
  · rw [if_neg g] at h; cases h
theorem gi_t {α : Type} {G : Prop} {T F x : α} {dG : Decidable G} (h : (@ite _ G dG T F) = x) (g : G) : T = x := by rw [if_pos g] at h; exact h
theorem gi_f {α : Type} {G : Prop} {T F x : α} {dG : Decidable G} (h : (@ite _ G dG T F) = x) (g : ¬ G) : F = x := by rw [if_neg g] at h; exact h
theorem bd {α β : Type} {f : Option α} {g : α → Option β} {x : β} (h : Option.bind f g = some x) : ∃ a, f = some a ∧ g a = some x := by
  cases f with
  | none => cases h
  | some a => exact ⟨a, rfl, h⟩
theorem tr1 {α : Type} {x o : α} (h : some x = some o) (G : α → Prop) (hx : G x) : G o := by cases h; exact hx
theorem oe_n {α β : Type} {a x : β} {f : α → β} (h : Option.elim none a f = x) : a = x := h
theorem oe_s {α β : Type} {a x : β} {f : α → β} {y : α} (h : Option.elim (some y) a f = x) : f y = x := h
theorem nS {α : Type} {x : α} {p : Prop} (h : (none : Option α) = some x) : p := by cases h

/-! the six slots' rules: seven cells each -/
abbrev blk {cI cJ : ClassId} (au ag ab ar ae ao ac : Nat → Nat) (ba_al ba_pe ba_pc ba_de : Nat → Int32) (ba_en : Nat → Int64) (ba_bh ba_rd ba_eb ba_eo : Nat → Nat → Int64) (ba_rc : Nat → Nat → Int32) (j : Nat) : va_W :=
  [(au j, .inr (3, [.ref (ag j), .int (ba_al j), .int (ba_pe j)])), (ag j, .inr (2, [.ref (ab j), .ref (ar j), .ref (ae j), .ref (ao j), .ref (ac j), .int (ba_pc j), .int (ba_de j), .long (ba_en j)])), (ab j, .inl (cJ, 41, .inr (.inl (ba_bh j)))), (ar j, .inl (cJ, 95, .inr (.inl (ba_rd j)))), (ae j, .inl (cJ, 2, .inr (.inl (ba_eb j)))), (ao j, .inl (cJ, 2, .inr (.inl (ba_eo j)))), (ac j, .inl (cI, 2, .inl (ba_rc j)))]
abbrev blks {cI cJ : ClassId} (au ag ab ar ae ao ac : Nat → Nat) (ba_al ba_pe ba_pc ba_de : Nat → Int32) (ba_en : Nat → Int64) (ba_bh ba_rd ba_eb ba_eo : Nat → Nat → Int64) (ba_rc : Nat → Nat → Int32) : va_W :=
  blk (cI := cI) (cJ := cJ) au ag ab ar ae ao ac ba_al ba_pe ba_pc ba_de ba_en ba_bh ba_rd ba_eb ba_eo ba_rc 0 ++ (blk (cI := cI) (cJ := cJ) au ag ab ar ae ao ac ba_al ba_pe ba_pc ba_de ba_en ba_bh ba_rd ba_eb ba_eo ba_rc 1 ++ (blk (cI := cI) (cJ := cJ) au ag ab ar ae ao ac ba_al ba_pe ba_pc ba_de ba_en ba_bh ba_rd ba_eb ba_eo ba_rc 2 ++ (blk (cI := cI) (cJ := cJ) au ag ab ar ae ao ac ba_al ba_pe ba_pc ba_de ba_en ba_bh ba_rd ba_eb ba_eo ba_rc 3 ++ (blk (cI := cI) (cJ := cJ) au ag ab ar ae ao ac ba_al ba_pe ba_pc ba_de ba_en ba_bh ba_rd ba_eb ba_eo ba_rc 4 ++ blk (cI := cI) (cJ := cJ) au ag ab ar ae ao ac ba_al ba_pe ba_pc ba_de ba_en ba_bh ba_rd ba_eb ba_eo ba_rc 5))))
theorem lt6 {x : Nat} (h : x < 6) : x = 0 ∨ x = 1 ∨ x = 2 ∨ x = 3 ∨ x = 4 ∨ x = 5 := by omega
section BLK
variable {cI cJ : ClassId} {au ag ab ar ae ao ac : Nat → Nat} {ba_al ba_pe ba_pc ba_de : Nat → Int32} {ba_en : Nat → Int64} {ba_bh ba_rd ba_eb ba_eo : Nat → Nat → Int64} {ba_rc : Nat → Nat → Int32} {pre : va_W} {L0 X : Nat}
theorem blk_0 (hL : pre.length = L0) (hX : X < 6) : (pre ++ blks (cI := cI) (cJ := cJ) au ag ab ar ae ao ac ba_al ba_pe ba_pc ba_de ba_en ba_bh ba_rd ba_eb ba_eo ba_rc)[L0 + 7 * X + 0]? = some (au X, .inr (3, [.ref (ag X), .int (ba_al X), .int (ba_pe X)])) := by
  subst hL
  rw [List.getElem?_append_right (by omega), show pre.length + 7 * X + 0 - pre.length = 7 * X by omega]
  rcases lt6 hX with rfl | rfl | rfl | rfl | rfl | rfl <;> rfl
theorem blk_1 (hL : pre.length = L0) (hX : X < 6) : (pre ++ blks (cI := cI) (cJ := cJ) au ag ab ar ae ao ac ba_al ba_pe ba_pc ba_de ba_en ba_bh ba_rd ba_eb ba_eo ba_rc)[L0 + 7 * X + 1]? = some (ag X, .inr (2, [.ref (ab X), .ref (ar X), .ref (ae X), .ref (ao X), .ref (ac X), .int (ba_pc X), .int (ba_de X), .long (ba_en X)])) := by
  subst hL
  rw [List.getElem?_append_right (by omega), show pre.length + 7 * X + 1 - pre.length = 7 * X + 1 by omega]
  rcases lt6 hX with rfl | rfl | rfl | rfl | rfl | rfl <;> rfl
end BLK
theorem slot_up {au pi : Nat → Nat} {i X : Nat} : va_up (fun j => some (au (pi j))) i (some (au X)) = fun j => some (au (va_up pi i X j)) := by
  funext j
  by_cases h : j = i
  · simp [va_up, h]
  · simp [va_up, h]

/-! THE BASE: Wk X R nL D A k n Q ws lv st pc: from every heap that holds the world ws, every frame at pc with the locals lv and the stack st comes to Q. One rule an instruction, over the kit's rows. -/
abbrev GX : Type := Program × Launch × Env × State × MethodId × Array Value × List Frame × Method × Code
abbrev xp (X : GX) : Program := X.1
abbrev xl (X : GX) : Launch := X.2.1
abbrev xe (X : GX) : Env := X.2.2.1
abbrev xs (X : GX) : State := X.2.2.2.1
abbrev xm (X : GX) : MethodId := X.2.2.2.2.1
abbrev xa (X : GX) : Array Value := X.2.2.2.2.2.1
abbrev xb (X : GX) : List Frame := X.2.2.2.2.2.2.1
abbrev xt (X : GX) : Method := X.2.2.2.2.2.2.2.1
abbrev xc (X : GX) : Code := X.2.2.2.2.2.2.2.2
abbrev GT : Type := List (ClassId × FieldType)
abbrev tysL (cI cJ cC cZ cR : ClassId) : GT := [(cI, .int), (cJ, .long), (cC, .char), (cZ, .boolean), (cR, .object "GlobProfile$Rule")]
/-- what the tables say: classes, array classes, the nest's links -/
def gK (D : va_G) (tys : GT) (U : State) : Prop := va_K D classes tys U ∧ (∀ w ∈ NW, va_Nw w U) ∧ va_AO "GlobProfile$Rule" U
theorem gK.warm {D : va_G} {tys : GT} {s U : State} (hW : s.WarmedH U.vm) (h : gK D tys s) : gK D tys U := by
  refine ⟨va_K.moved hW.alike h.1, fun w hw => ?_, va_AO.moved hW.alike h.2.2⟩
  have h1 := h.2.1 w hw
  have h2 := NW_nest w hw
  cases w <;> first | exact va_Nw.warmF hW h1 | exact va_Nw.warmM hW h1 | (simp [isNest] at h2; done)
theorem gK.call {D : va_G} {tys : GT} {U : State} {g : JFrame} {mk : MethodId} {a : Array Value} (h : gK D tys U) : gK D tys (U.calling g mk a) := by
  refine ⟨va_K.moved (u := U) (U := U.calling g mk a) (Vm.Alike.refl U.vm) h.1, fun w hw => ?_, va_AO.moved (u := U) (U := U.calling g mk a) (Vm.Alike.refl U.vm) h.2.2⟩
  have h1 := h.2.1 w hw
  have h2 := NW_nest w hw
  have hv : U.vm = (U.calling g mk a).vm := rfl
  cases w <;> first | exact va_Nw.same rfl hv h1 | (simp [isNest] at h2; done)
/-- a method's contract: with the world ws and the arguments av it returns o and leaves the world w', with Qs o w' -/
def GQ (D : va_G) (ws0 : va_W) (sz : Nat) (Qs : Option Value → va_W → Prop) : Array Value → State → Outcome → State → Prop := fun _ st oc t => (∃ (o : Option Value) (w : va_W), oc = .returned o ∧ Qs o w ∧ va_P D classes w t.heap ∧ va_D (va_A ws0 sz) w) ∧ va_F (va_A ws0 sz) st t
def GM (l : Launch) (D : va_G) (tys : GT) (y : MethodName) (cc : ByteArray) (nL : Nat) (ret : Option FieldType) (rm : Room) (av : List Value) (ws : va_W) (Qs : Option Value → va_W → Prop) : Prop := ∀ sz : Nat, Met l y (.code y cc nL ret :: TT) rm (va_Pc av (fun U => U.heap.size = sz ∧ va_P D classes ws U.heap ∧ gK D tys U ∧ va_D (fun _ => True) ws)) (GQ D ws sz Qs) rm.cells rm.slots (va_A ws sz)
/-- what is fixed while a method runs -/
def CX (X : GX) (R : Room) (y : MethodName) (cc : ByteArray) (nL : Nat) (ret : Option FieldType) (D : va_G) (tys : GT) (A : Nat → Prop) : Prop :=
  (xp X).tables.exec = Jvm.exec ∧ (xc X).code = cc ∧ (xc X).maxLocals = nL ∧ (xs X).vm.findClass y.cls = some (xm X).cls ∧ (∀ w ∈ TT, w.before (xa X) (xs X) = true) ∧ gK D tys (xs X) ∧ (∀ q, (xs X).heap.size ≤ q → A q) ∧ (xt X).locks = false ∧ (xt X).sig.returnType = ret ∧ (xt X).name = y.name
def Wk (X : GX) (R : Room) (nL : Nat) (D : va_G) (A : Nat → Prop) (k n : Nat) (Q : State → Prop) (ws : va_W) (lv : List (Nat × Value)) (st : List Value) (pc : Nat) : Prop :=
  ∀ (H : Heap) (locs : List Loc) (ls : Array Slot), va_P D classes ws H → va_D A ws → va_S A (xs X).heap H locs → lv_has ls nL lv → W (xp X) (xl X) (xe X) R (xs X) (xm X) (xa X) (xb X) (xt X) (xc X) H locs k n Q (F0 (xm X) pc ls st)
/-- the end of a method whose contract is GM -/
def GE (X : GX) (D : va_G) (ws0 : va_W) (Qs : Option Value → va_W → Prop) (k n : Nat) : State → Prop := MQ (xb X) (GQ D ws0 (xs X).heap.size Qs) (xa X) (xs X) k n (va_A ws0 (xs X).heap.size)
theorem GM.of {l : Launch} {D : va_G} {tys : GT} {y : MethodName} {cc : ByteArray} {nL : Nat} {ret : Option FieldType} {rm : Room} {av : List Value} {ws : va_W} {Qs : Option Value → va_W → Prop} (hy : plainName y.cls = true) (hlen : (lg_sl av).length ≤ nL) {lv : List (Nat × Value)} (hlv : lv_args 0 av = lv)
    (body : ∀ X : GX, xl X = l → CX X rm y cc nL ret D tys (va_A ws (xs X).heap.size) → Wk X rm nL D (va_A ws (xs X).heap.size) 0 0 (GE X D ws Qs rm.cells rm.slots) ws lv [] 0) : GM l D tys y cc nL ret rm av ws Qs := by
  intro sz
  refine Met.ofW (cc := cc) (maxL := nL) (ret := ret) hy rfl ?_
  intro p e s m args below meth c s₁ B hml hv
  obtain ⟨rfl, hsz, hP, hK, hD0⟩ := hv
  have hts := atoms_spec (ws := Cond.code y cc nL ret :: TT) B.pre
  have hn := name_of_methodNamed B.named B.method
  subst hsz
  have hl := lv_entry av (n := nL) hlen
  rw [lg_entry_eq]
  rw [hlv] at hl
  exact body (p, l, e, s, m, av.toArray, below, meth, c) rfl ⟨B.exec, B.bytes, hml, findClass_of_methodNamed B.named, fun w h => hts w (List.mem_cons_of_mem _ h), hK, fun q h => Or.inr h, B.notSynchronized, B.returns, hn.1⟩ s.heap [] _ hP hD0.self va_S.rf hl
theorem TT_good {w0 : Cond} (h0 : w0 ∈ TT) (hg : goodWord w0 = true) : GoodIn TT (w0 :: TT) := by
  intro w hw
  rcases List.mem_cons.mp hw with rfl | hw
  · exact ⟨h0, good_of_word hg⟩
  · exact ⟨hw, good_of_word (TT_ok w hw)⟩
theorem D_perm {A : Nat → Prop} {ws ws' : va_W} (h : ws.Perm ws') (hD : va_D A ws) : va_D A ws' := by
  have hn : (ws.map (fun q => q.1)).Nodup := by
    rw [List.nodup_iff_pairwise_ne, List.pairwise_iff_getElem]
    intro i j hi hj hij e
    rw [List.length_map] at hi hj
    rw [List.getElem_map, List.getElem_map] at e
    have := hD.1 i j ws[i] ws[j] (List.getElem?_eq_getElem hi) (List.getElem?_eq_getElem hj) e
    omega
  have hn' : (ws'.map (fun q => q.1)).Nodup := (h.map _).nodup_iff.mp hn
  refine ⟨fun i j x y hx hy hxy => ?_, fun k q hk => ?_⟩
  · obtain ⟨hi, ex⟩ := List.getElem?_eq_some_iff.mp hx
    obtain ⟨hj, ey⟩ := List.getElem?_eq_some_iff.mp hy
    rw [List.nodup_iff_pairwise_ne, List.pairwise_iff_getElem] at hn'
    rcases Nat.lt_trichotomy i j with q | q | q
    · exact absurd (by rw [List.getElem_map, List.getElem_map, ex, ey]; exact hxy) (hn' i j (by rw [List.length_map]; exact hi) (by rw [List.length_map]; exact hj) q)
    · exact q
    · exact absurd (by rw [List.getElem_map, List.getElem_map, ex, ey]; exact hxy.symm) (hn' j i (by rw [List.length_map]; exact hj) (by rw [List.length_map]; exact hi) q)
  · obtain ⟨i, hi⟩ := List.getElem?_of_mem (h.mem_iff.mpr (List.mem_of_getElem? hk))
    exact hD.2 i q hi
theorem P_perm {D : va_G} {ws ws' : va_W} {H : Heap} (h : ws.Perm ws') (hP : va_P D classes ws H) : va_P D classes ws' H := fun k q hk => by
  obtain ⟨i, hi⟩ := List.getElem?_of_mem (h.mem_iff.mpr (List.mem_of_getElem? hk))
  exact hP i q hi
theorem pm_0 (a b0 b1 b2 b3 b4 b5 : va_W) : ((a ++ b0) ++ (b1 ++ (b2 ++ (b3 ++ (b4 ++ b5))))).Perm (a ++ (b0 ++ (b1 ++ (b2 ++ (b3 ++ (b4 ++ b5)))))) := by rw [List.append_assoc]
theorem pm_c (a b c d : va_W) : ((a ++ b) ++ (c ++ d)).Perm (a ++ (c ++ (b ++ d))) := by
  rw [List.append_assoc]
  refine List.Perm.append_left a ?_
  rw [← List.append_assoc, ← List.append_assoc]
  exact List.Perm.append_right d List.perm_append_comm
theorem pm_1 (a b0 b1 b2 b3 b4 b5 : va_W) : ((a ++ b1) ++ (b0 ++ (b2 ++ (b3 ++ (b4 ++ b5))))).Perm (a ++ (b0 ++ (b1 ++ (b2 ++ (b3 ++ (b4 ++ b5)))))) := pm_c a b1 b0 _
theorem pm_2 (a b0 b1 b2 b3 b4 b5 : va_W) : ((a ++ b2) ++ (b0 ++ (b1 ++ (b3 ++ (b4 ++ b5))))).Perm (a ++ (b0 ++ (b1 ++ (b2 ++ (b3 ++ (b4 ++ b5)))))) := by
  have := pm_c a b2 (b0 ++ b1) (b3 ++ (b4 ++ b5))
  simpa only [List.append_assoc] using this
theorem pm_3 (a b0 b1 b2 b3 b4 b5 : va_W) : ((a ++ b3) ++ (b0 ++ (b1 ++ (b2 ++ (b4 ++ b5))))).Perm (a ++ (b0 ++ (b1 ++ (b2 ++ (b3 ++ (b4 ++ b5)))))) := by
  have := pm_c a b3 (b0 ++ (b1 ++ b2)) (b4 ++ b5)
  simpa only [List.append_assoc] using this
theorem pm_4 (a b0 b1 b2 b3 b4 b5 : va_W) : ((a ++ b4) ++ (b0 ++ (b1 ++ (b2 ++ (b3 ++ b5))))).Perm (a ++ (b0 ++ (b1 ++ (b2 ++ (b3 ++ (b4 ++ b5)))))) := by
  have := pm_c a b4 (b0 ++ (b1 ++ (b2 ++ b3))) b5
  simpa only [List.append_assoc] using this
theorem pm_5 (a b0 b1 b2 b3 b4 b5 : va_W) : ((a ++ b5) ++ (b0 ++ (b1 ++ (b2 ++ (b3 ++ b4))))).Perm (a ++ (b0 ++ (b1 ++ (b2 ++ (b3 ++ (b4 ++ b5)))))) := by
  have := pm_c a b5 (b0 ++ (b1 ++ (b2 ++ (b3 ++ b4)))) []
  simpa only [List.append_assoc, List.append_nil] using this
section GB
variable {X : GX} {R : Room} {y : MethodName} {cc : ByteArray} {nL : Nat} {ret : Option FieldType} {D : va_G} {tys : GT} {A : Nat → Prop} {k n : Nat} {Q : State → Prop} {ws : va_W} {lv : List (Nat × Value)} {st : List Value} {pc pc' : Nat}

theorem k_iconst (C : CX X R y cc nL ret D tys A) {i : Int} {v : Int32} (hd : decode cc pc = .ok (.iconst i, 1)) (hv : Int32.ofInt i = v) (hp : pc + 1 = pc') (kk : Wk X R nL D A k n Q ws lv (.int v :: st) pc') : Wk X R nL D A k n Q ws lv (st) pc := by
  subst hp; exact fun H locs ls hP hD hS hl => lv_iconst C.1 C.2.1 hd hv (kk H locs ls hP hD hS hl)
theorem k_bipush (C : CX X R y cc nL ret D tys A) {i : Int} {v : Int32} (hd : decode cc pc = .ok (.bipush i, 2)) (hv : (Int8.ofInt i).toInt32 = v) (hp : pc + 2 = pc') (kk : Wk X R nL D A k n Q ws lv (.int v :: st) pc') : Wk X R nL D A k n Q ws lv (st) pc := by
  subst hp; exact fun H locs ls hP hD hS hl => lv_bipush C.1 C.2.1 hd hv (kk H locs ls hP hD hS hl)
theorem k_sipush (C : CX X R y cc nL ret D tys A) {i : Int} {v : Int32} (hd : decode cc pc = .ok (.sipush i, 3)) (hv : (Int16.ofInt i).toInt32 = v) (hp : pc + 3 = pc') (kk : Wk X R nL D A k n Q ws lv (.int v :: st) pc') : Wk X R nL D A k n Q ws lv (st) pc := by
  subst hp; exact fun H locs ls hP hD hS hl => lv_sipush C.1 C.2.1 hd hv (kk H locs ls hP hD hS hl)
theorem k_lconst (C : CX X R y cc nL ret D tys A) {i : Fin 2} {v : Int64} (hd : decode cc pc = .ok (.lconst i, 1)) (hv : Int64.ofNat (i : Nat) = v) (hp : pc + 1 = pc') (kk : Wk X R nL D A k n Q ws lv (.long v :: st) pc') : Wk X R nL D A k n Q ws lv (st) pc := by
  subst hp; exact fun H locs ls hP hD hS hl => lv_lconst C.1 C.2.1 hd hv (kk H locs ls hP hD hS hl)
theorem k_iload_n (C : CX X R y cc nL ret D tys A) {f : Fin 4} {i : Nat} {x : Int32} (hd : decode cc pc = .ok (.iload_n f, 1)) (hi : (f : Nat) = i) (j : Nat) (hj : lv[j]? = some (i, .int x)) (hp : pc + 1 = pc') (kk : Wk X R nL D A k n Q ws lv (.int x :: st) pc') : Wk X R nL D A k n Q ws lv (st) pc := by
  subst hp; exact fun H locs ls hP hD hS hl => lv_iload_n C.1 C.2.1 hd hi (lv_at hl j hj) (kk H locs ls hP hD hS hl)
theorem k_iload (C : CX X R y cc nL ret D tys A) {i : Nat} {x : Int32} (hd : decode cc pc = .ok (.iload i, 2)) (j : Nat) (hj : lv[j]? = some (i, .int x)) (hp : pc + 2 = pc') (kk : Wk X R nL D A k n Q ws lv (.int x :: st) pc') : Wk X R nL D A k n Q ws lv (st) pc := by
  subst hp; exact fun H locs ls hP hD hS hl => lv_iload C.1 C.2.1 hd (lv_at hl j hj) (kk H locs ls hP hD hS hl)
theorem k_lload_n (C : CX X R y cc nL ret D tys A) {f : Fin 4} {i : Nat} {x : Int64} (hd : decode cc pc = .ok (.lload_n f, 1)) (hi : (f : Nat) = i) (j : Nat) (hj : lv[j]? = some (i, .long x)) (hp : pc + 1 = pc') (kk : Wk X R nL D A k n Q ws lv (.long x :: st) pc') : Wk X R nL D A k n Q ws lv (st) pc := by
  subst hp; exact fun H locs ls hP hD hS hl => lv_lload_n C.1 C.2.1 hd hi (lv_at hl j hj) (kk H locs ls hP hD hS hl)
theorem k_lload (C : CX X R y cc nL ret D tys A) {i : Nat} {x : Int64} (hd : decode cc pc = .ok (.lload i, 2)) (j : Nat) (hj : lv[j]? = some (i, .long x)) (hp : pc + 2 = pc') (kk : Wk X R nL D A k n Q ws lv (.long x :: st) pc') : Wk X R nL D A k n Q ws lv (st) pc := by
  subst hp; exact fun H locs ls hP hD hS hl => lv_lload C.1 C.2.1 hd (lv_at hl j hj) (kk H locs ls hP hD hS hl)
theorem k_aload_n (C : CX X R y cc nL ret D tys A) {f : Fin 4} {i : Nat} {x : Nat} (hd : decode cc pc = .ok (.aload_n f, 1)) (hi : (f : Nat) = i) (j : Nat) (hj : lv[j]? = some (i, .ref x)) (hp : pc + 1 = pc') (kk : Wk X R nL D A k n Q ws lv (.ref x :: st) pc') : Wk X R nL D A k n Q ws lv (st) pc := by
  subst hp; exact fun H locs ls hP hD hS hl => lv_aload_n C.1 C.2.1 hd hi (lv_at hl j hj) (kk H locs ls hP hD hS hl)
theorem k_aload (C : CX X R y cc nL ret D tys A) {i : Nat} {x : Nat} (hd : decode cc pc = .ok (.aload i, 2)) (j : Nat) (hj : lv[j]? = some (i, .ref x)) (hp : pc + 2 = pc') (kk : Wk X R nL D A k n Q ws lv (.ref x :: st) pc') : Wk X R nL D A k n Q ws lv (st) pc := by
  subst hp; exact fun H locs ls hP hD hS hl => lv_aload C.1 C.2.1 hd (lv_at hl j hj) (kk H locs ls hP hD hS hl)
theorem k_aload_nN (C : CX X R y cc nL ret D tys A) {f : Fin 4} {i : Nat} (hd : decode cc pc = .ok (.aload_n f, 1)) (hi : (f : Nat) = i) (j : Nat) (hj : lv[j]? = some (i, .null)) (hp : pc + 1 = pc') (kk : Wk X R nL D A k n Q ws lv (.null :: st) pc') : Wk X R nL D A k n Q ws lv (st) pc := by
  subst hp; exact fun H locs ls hP hD hS hl => lv_aload_nN C.1 C.2.1 hd hi (lv_at hl j hj) (kk H locs ls hP hD hS hl)
theorem k_aloadN (C : CX X R y cc nL ret D tys A) {i : Nat} (hd : decode cc pc = .ok (.aload i, 2)) (j : Nat) (hj : lv[j]? = some (i, .null)) (hp : pc + 2 = pc') (kk : Wk X R nL D A k n Q ws lv (.null :: st) pc') : Wk X R nL D A k n Q ws lv (st) pc := by
  subst hp; exact fun H locs ls hP hD hS hl => lv_aloadN C.1 C.2.1 hd (lv_at hl j hj) (kk H locs ls hP hD hS hl)
theorem k_istore_n (C : CX X R y cc nL ret D tys A) {f : Fin 4} {i : Nat} {x : Int32} {lv' : List (Nat × Value)} (hd : decode cc pc = .ok (.istore_n f, 1)) (hi : (f : Nat) = i) (hn : i < nL) (hl' : (i, Value.int x) :: lv.filter (fun q => !(q.1 == i) && !(q.1 + 1 == i && q.2.category == 2)) = lv') (hp : pc + 1 = pc') (kk : Wk X R nL D A k n Q ws lv' st pc') : Wk X R nL D A k n Q ws lv (Value.int x :: st) pc := by
  subst hp; exact fun H locs ls hP hD hS hl => lv_istore_n C.1 C.2.1 hd hi hl hn hl' (fun ls' h' => kk H locs ls' hP hD hS h')
theorem k_istore (C : CX X R y cc nL ret D tys A) {i : Nat} {x : Int32} {lv' : List (Nat × Value)} (hd : decode cc pc = .ok (.istore i, 2))  (hn : i < nL) (hl' : (i, Value.int x) :: lv.filter (fun q => !(q.1 == i) && !(q.1 + 1 == i && q.2.category == 2)) = lv') (hp : pc + 2 = pc') (kk : Wk X R nL D A k n Q ws lv' st pc') : Wk X R nL D A k n Q ws lv (Value.int x :: st) pc := by
  subst hp; exact fun H locs ls hP hD hS hl => lv_istore C.1 C.2.1 hd  hl hn hl' (fun ls' h' => kk H locs ls' hP hD hS h')
theorem k_lstore_n (C : CX X R y cc nL ret D tys A) {f : Fin 4} {i : Nat} {x : Int64} {lv' : List (Nat × Value)} (hd : decode cc pc = .ok (.lstore_n f, 1)) (hi : (f : Nat) = i) (hn : i + 1 < nL) (hl' : (i, Value.long x) :: lv.filter (fun q => !(q.1 == i) && (!(q.1 == i + 1) && !(q.1 + 1 == i && q.2.category == 2))) = lv') (hp : pc + 1 = pc') (kk : Wk X R nL D A k n Q ws lv' st pc') : Wk X R nL D A k n Q ws lv (Value.long x :: st) pc := by
  subst hp; exact fun H locs ls hP hD hS hl => lv_lstore_n C.1 C.2.1 hd hi hl hn hl' (fun ls' h' => kk H locs ls' hP hD hS h')
theorem k_lstore (C : CX X R y cc nL ret D tys A) {i : Nat} {x : Int64} {lv' : List (Nat × Value)} (hd : decode cc pc = .ok (.lstore i, 2))  (hn : i + 1 < nL) (hl' : (i, Value.long x) :: lv.filter (fun q => !(q.1 == i) && (!(q.1 == i + 1) && !(q.1 + 1 == i && q.2.category == 2))) = lv') (hp : pc + 2 = pc') (kk : Wk X R nL D A k n Q ws lv' st pc') : Wk X R nL D A k n Q ws lv (Value.long x :: st) pc := by
  subst hp; exact fun H locs ls hP hD hS hl => lv_lstore C.1 C.2.1 hd  hl hn hl' (fun ls' h' => kk H locs ls' hP hD hS h')
theorem k_astore_n (C : CX X R y cc nL ret D tys A) {f : Fin 4} {i : Nat} {x : Nat} {lv' : List (Nat × Value)} (hd : decode cc pc = .ok (.astore_n f, 1)) (hi : (f : Nat) = i) (hn : i < nL) (hl' : (i, Value.ref x) :: lv.filter (fun q => !(q.1 == i) && !(q.1 + 1 == i && q.2.category == 2)) = lv') (hp : pc + 1 = pc') (kk : Wk X R nL D A k n Q ws lv' st pc') : Wk X R nL D A k n Q ws lv (Value.ref x :: st) pc := by
  subst hp; exact fun H locs ls hP hD hS hl => lv_astore_n C.1 C.2.1 hd hi hl hn hl' (fun ls' h' => kk H locs ls' hP hD hS h')
theorem k_astore (C : CX X R y cc nL ret D tys A) {i : Nat} {x : Nat} {lv' : List (Nat × Value)} (hd : decode cc pc = .ok (.astore i, 2))  (hn : i < nL) (hl' : (i, Value.ref x) :: lv.filter (fun q => !(q.1 == i) && !(q.1 + 1 == i && q.2.category == 2)) = lv') (hp : pc + 2 = pc') (kk : Wk X R nL D A k n Q ws lv' st pc') : Wk X R nL D A k n Q ws lv (Value.ref x :: st) pc := by
  subst hp; exact fun H locs ls hP hD hS hl => lv_astore C.1 C.2.1 hd  hl hn hl' (fun ls' h' => kk H locs ls' hP hD hS h')
theorem k_astore_nN (C : CX X R y cc nL ret D tys A) {f : Fin 4} {i : Nat} {lv' : List (Nat × Value)} (hd : decode cc pc = .ok (.astore_n f, 1)) (hi : (f : Nat) = i) (hn : i < nL) (hl' : (i, Value.null) :: lv.filter (fun q => !(q.1 == i) && !(q.1 + 1 == i && q.2.category == 2)) = lv') (hp : pc + 1 = pc') (kk : Wk X R nL D A k n Q ws lv' st pc') : Wk X R nL D A k n Q ws lv (Value.null :: st) pc := by
  subst hp; exact fun H locs ls hP hD hS hl => lv_astore_nN C.1 C.2.1 hd hi hl hn hl' (fun ls' h' => kk H locs ls' hP hD hS h')
theorem k_astoreN (C : CX X R y cc nL ret D tys A) {i : Nat} {lv' : List (Nat × Value)} (hd : decode cc pc = .ok (.astore i, 2))  (hn : i < nL) (hl' : (i, Value.null) :: lv.filter (fun q => !(q.1 == i) && !(q.1 + 1 == i && q.2.category == 2)) = lv') (hp : pc + 2 = pc') (kk : Wk X R nL D A k n Q ws lv' st pc') : Wk X R nL D A k n Q ws lv (Value.null :: st) pc := by
  subst hp; exact fun H locs ls hP hD hS hl => lv_astoreN C.1 C.2.1 hd  hl hn hl' (fun ls' h' => kk H locs ls' hP hD hS h')
theorem k_iinc (C : CX X R y cc nL ret D tys A) {i : Nat} {d : Int} {x v : Int32} {lv' : List (Nat × Value)} (hd : decode cc pc = .ok (.iinc i d, 3)) (j : Nat) (hj : lv[j]? = some (i, .int x)) (hv : x + Int32.ofInt d = v) (hn : i < nL) (hl' : (i, Value.int v) :: lv.filter (fun q => !(q.1 == i) && !(q.1 + 1 == i && q.2.category == 2)) = lv') (hp : pc + 3 = pc') (kk : Wk X R nL D A k n Q ws lv' st pc') : Wk X R nL D A k n Q ws lv st pc := by
  subst hp; exact fun H locs ls hP hD hS hl => lv_iinc C.1 C.2.1 hd hl hj hv hn hl' (fun ls' h' => kk H locs ls' hP hD hS h')
theorem k_iadd (C : CX X R y cc nL ret D tys A) {x y : Int32} (hd : decode cc pc = .ok (.iadd, 1))  (hp : pc + 1 = pc') (kk : Wk X R nL D A k n Q ws lv (.int (x + y) :: st) pc') : Wk X R nL D A k n Q ws lv (.int y :: .int x :: st) pc := by
  subst hp; exact fun H locs ls hP hD hS hl => lv_iadd C.1 C.2.1 hd  (kk H locs ls hP hD hS hl)
theorem k_isub (C : CX X R y cc nL ret D tys A) {x y : Int32} (hd : decode cc pc = .ok (.isub, 1))  (hp : pc + 1 = pc') (kk : Wk X R nL D A k n Q ws lv (.int (x - y) :: st) pc') : Wk X R nL D A k n Q ws lv (.int y :: .int x :: st) pc := by
  subst hp; exact fun H locs ls hP hD hS hl => lv_isub C.1 C.2.1 hd  (kk H locs ls hP hD hS hl)
theorem k_imul (C : CX X R y cc nL ret D tys A) {x y : Int32} (hd : decode cc pc = .ok (.imul, 1))  (hp : pc + 1 = pc') (kk : Wk X R nL D A k n Q ws lv (.int (x * y) :: st) pc') : Wk X R nL D A k n Q ws lv (.int y :: .int x :: st) pc := by
  subst hp; exact fun H locs ls hP hD hS hl => lv_imul C.1 C.2.1 hd  (kk H locs ls hP hD hS hl)
theorem k_iand (C : CX X R y cc nL ret D tys A) {x y : Int32} (hd : decode cc pc = .ok (.iand, 1))  (hp : pc + 1 = pc') (kk : Wk X R nL D A k n Q ws lv (.int (x &&& y) :: st) pc') : Wk X R nL D A k n Q ws lv (.int y :: .int x :: st) pc := by
  subst hp; exact fun H locs ls hP hD hS hl => lv_iand C.1 C.2.1 hd  (kk H locs ls hP hD hS hl)
theorem k_ior (C : CX X R y cc nL ret D tys A) {x y : Int32} (hd : decode cc pc = .ok (.ior, 1))  (hp : pc + 1 = pc') (kk : Wk X R nL D A k n Q ws lv (.int (x ||| y) :: st) pc') : Wk X R nL D A k n Q ws lv (.int y :: .int x :: st) pc := by
  subst hp; exact fun H locs ls hP hD hS hl => lv_ior C.1 C.2.1 hd  (kk H locs ls hP hD hS hl)
theorem k_ixor (C : CX X R y cc nL ret D tys A) {x y : Int32} (hd : decode cc pc = .ok (.ixor, 1))  (hp : pc + 1 = pc') (kk : Wk X R nL D A k n Q ws lv (.int (x ^^^ y) :: st) pc') : Wk X R nL D A k n Q ws lv (.int y :: .int x :: st) pc := by
  subst hp; exact fun H locs ls hP hD hS hl => lv_ixor C.1 C.2.1 hd  (kk H locs ls hP hD hS hl)
theorem k_ishl (C : CX X R y cc nL ret D tys A) {x y : Int32} (hd : decode cc pc = .ok (.ishl, 1))  (hp : pc + 1 = pc') (kk : Wk X R nL D A k n Q ws lv (.int (x <<< (y &&& 31)) :: st) pc') : Wk X R nL D A k n Q ws lv (.int y :: .int x :: st) pc := by
  subst hp; exact fun H locs ls hP hD hS hl => lv_ishl C.1 C.2.1 hd  (kk H locs ls hP hD hS hl)
theorem k_ishr (C : CX X R y cc nL ret D tys A) {x y : Int32} (hd : decode cc pc = .ok (.ishr, 1))  (hp : pc + 1 = pc') (kk : Wk X R nL D A k n Q ws lv (.int (x >>> (y &&& 31)) :: st) pc') : Wk X R nL D A k n Q ws lv (.int y :: .int x :: st) pc := by
  subst hp; exact fun H locs ls hP hD hS hl => lv_ishr C.1 C.2.1 hd  (kk H locs ls hP hD hS hl)
theorem k_idiv (C : CX X R y cc nL ret D tys A) {x y : Int32} (hd : decode cc pc = .ok (.idiv, 1)) (h0 : ¬ y = 0) (hp : pc + 1 = pc') (kk : Wk X R nL D A k n Q ws lv (.int (x / y) :: st) pc') : Wk X R nL D A k n Q ws lv (.int y :: .int x :: st) pc := by
  subst hp; exact fun H locs ls hP hD hS hl => lv_idiv C.1 C.2.1 hd h0 (kk H locs ls hP hD hS hl)
theorem k_irem (C : CX X R y cc nL ret D tys A) {x y : Int32} (hd : decode cc pc = .ok (.irem, 1)) (h0 : ¬ y = 0) (hp : pc + 1 = pc') (kk : Wk X R nL D A k n Q ws lv (.int (x - x / y * y) :: st) pc') : Wk X R nL D A k n Q ws lv (.int y :: .int x :: st) pc := by
  subst hp; exact fun H locs ls hP hD hS hl => lv_irem C.1 C.2.1 hd h0 (kk H locs ls hP hD hS hl)
theorem k_ineg (C : CX X R y cc nL ret D tys A) {x : Int32} (hd : decode cc pc = .ok (.ineg, 1))  (hp : pc + 1 = pc') (kk : Wk X R nL D A k n Q ws lv (.int (-x) :: st) pc') : Wk X R nL D A k n Q ws lv (.int x :: st) pc := by
  subst hp; exact fun H locs ls hP hD hS hl => lv_ineg C.1 C.2.1 hd  (kk H locs ls hP hD hS hl)
theorem k_ladd (C : CX X R y cc nL ret D tys A) {x y : Int64} (hd : decode cc pc = .ok (.ladd, 1))  (hp : pc + 1 = pc') (kk : Wk X R nL D A k n Q ws lv (.long (x + y) :: st) pc') : Wk X R nL D A k n Q ws lv (.long y :: .long x :: st) pc := by
  subst hp; exact fun H locs ls hP hD hS hl => lv_ladd C.1 C.2.1 hd  (kk H locs ls hP hD hS hl)
theorem k_lsub (C : CX X R y cc nL ret D tys A) {x y : Int64} (hd : decode cc pc = .ok (.lsub, 1))  (hp : pc + 1 = pc') (kk : Wk X R nL D A k n Q ws lv (.long (x - y) :: st) pc') : Wk X R nL D A k n Q ws lv (.long y :: .long x :: st) pc := by
  subst hp; exact fun H locs ls hP hD hS hl => lv_lsub C.1 C.2.1 hd  (kk H locs ls hP hD hS hl)
theorem k_lmul (C : CX X R y cc nL ret D tys A) {x y : Int64} (hd : decode cc pc = .ok (.lmul, 1))  (hp : pc + 1 = pc') (kk : Wk X R nL D A k n Q ws lv (.long (x * y) :: st) pc') : Wk X R nL D A k n Q ws lv (.long y :: .long x :: st) pc := by
  subst hp; exact fun H locs ls hP hD hS hl => lv_lmul C.1 C.2.1 hd  (kk H locs ls hP hD hS hl)
theorem k_land (C : CX X R y cc nL ret D tys A) {x y : Int64} (hd : decode cc pc = .ok (.land, 1))  (hp : pc + 1 = pc') (kk : Wk X R nL D A k n Q ws lv (.long (x &&& y) :: st) pc') : Wk X R nL D A k n Q ws lv (.long y :: .long x :: st) pc := by
  subst hp; exact fun H locs ls hP hD hS hl => lv_land C.1 C.2.1 hd  (kk H locs ls hP hD hS hl)
theorem k_lor (C : CX X R y cc nL ret D tys A) {x y : Int64} (hd : decode cc pc = .ok (.lor, 1))  (hp : pc + 1 = pc') (kk : Wk X R nL D A k n Q ws lv (.long (x ||| y) :: st) pc') : Wk X R nL D A k n Q ws lv (.long y :: .long x :: st) pc := by
  subst hp; exact fun H locs ls hP hD hS hl => lv_lor C.1 C.2.1 hd  (kk H locs ls hP hD hS hl)
theorem k_lxor (C : CX X R y cc nL ret D tys A) {x y : Int64} (hd : decode cc pc = .ok (.lxor, 1))  (hp : pc + 1 = pc') (kk : Wk X R nL D A k n Q ws lv (.long (x ^^^ y) :: st) pc') : Wk X R nL D A k n Q ws lv (.long y :: .long x :: st) pc := by
  subst hp; exact fun H locs ls hP hD hS hl => lv_lxor C.1 C.2.1 hd  (kk H locs ls hP hD hS hl)
theorem k_i2l (C : CX X R y cc nL ret D tys A) {x : Int32} (hd : decode cc pc = .ok (.i2l, 1))  (hp : pc + 1 = pc') (kk : Wk X R nL D A k n Q ws lv (.long x.toInt64 :: st) pc') : Wk X R nL D A k n Q ws lv (.int x :: st) pc := by
  subst hp; exact fun H locs ls hP hD hS hl => lv_i2l C.1 C.2.1 hd rfl (kk H locs ls hP hD hS hl)
theorem k_l2i (C : CX X R y cc nL ret D tys A) {x : Int64} (hd : decode cc pc = .ok (.l2i, 1))  (hp : pc + 1 = pc') (kk : Wk X R nL D A k n Q ws lv (.int x.toInt32 :: st) pc') : Wk X R nL D A k n Q ws lv (.long x :: st) pc := by
  subst hp; exact fun H locs ls hP hD hS hl => lv_l2i C.1 C.2.1 hd rfl (kk H locs ls hP hD hS hl)
theorem k_i2c (C : CX X R y cc nL ret D tys A) {x : Int32} (hd : decode cc pc = .ok (.i2c, 1))  (hp : pc + 1 = pc') (kk : Wk X R nL D A k n Q ws lv (.int (x.toUInt32 % 65536).toInt32 :: st) pc') : Wk X R nL D A k n Q ws lv (.int x :: st) pc := by
  subst hp; exact fun H locs ls hP hD hS hl => lv_i2c C.1 C.2.1 hd rfl (kk H locs ls hP hD hS hl)
theorem k_iushr (C : CX X R y cc nL ret D tys A) {x y : Int32} (hd : decode cc pc = .ok (.iushr, 1))  (hp : pc + 1 = pc') (kk : Wk X R nL D A k n Q ws lv (.int (x.toUInt32 >>> (y.toUInt32 &&& Int32.toUInt32 31)).toInt32 :: st) pc') : Wk X R nL D A k n Q ws lv (.int y :: .int x :: st) pc := by
  subst hp; exact fun H locs ls hP hD hS hl => lv_iushr C.1 C.2.1 hd rfl (kk H locs ls hP hD hS hl)
theorem k_lushr (C : CX X R y cc nL ret D tys A) {x : Int64} {y : Int32} (hd : decode cc pc = .ok (.lushr, 1))  (hp : pc + 1 = pc') (kk : Wk X R nL D A k n Q ws lv (.long (x.toUInt64 >>> (y.toInt64.toUInt64 &&& Int64.toUInt64 63)).toInt64 :: st) pc') : Wk X R nL D A k n Q ws lv (.int y :: .long x :: st) pc := by
  subst hp; exact fun H locs ls hP hD hS hl => lv_lushr C.1 C.2.1 hd rfl (kk H locs ls hP hD hS hl)
theorem k_lshl (C : CX X R y cc nL ret D tys A) {x : Int64} {y : Int32} (hd : decode cc pc = .ok (.lshl, 1))  (hp : pc + 1 = pc') (kk : Wk X R nL D A k n Q ws lv (.long (x <<< (y.toInt64 &&& 63)) :: st) pc') : Wk X R nL D A k n Q ws lv (.int y :: .long x :: st) pc := by
  subst hp; exact fun H locs ls hP hD hS hl => lv_lshl C.1 C.2.1 hd rfl (kk H locs ls hP hD hS hl)
theorem k_lshr (C : CX X R y cc nL ret D tys A) {x : Int64} {y : Int32} (hd : decode cc pc = .ok (.lshr, 1))  (hp : pc + 1 = pc') (kk : Wk X R nL D A k n Q ws lv (.long (x >>> (y.toInt64 &&& 63)) :: st) pc') : Wk X R nL D A k n Q ws lv (.int y :: .long x :: st) pc := by
  subst hp; exact fun H locs ls hP hD hS hl => lv_lshr C.1 C.2.1 hd rfl (kk H locs ls hP hD hS hl)
theorem k_dup (C : CX X R y cc nL ret D tys A) {va : Value} (hd : decode cc pc = .ok (.dup, 1)) (h1 : va.category = 1) (hp : pc + 1 = pc') (kk : Wk X R nL D A k n Q ws lv (va :: va :: st) pc') : Wk X R nL D A k n Q ws lv (va :: st) pc := by
  subst hp; exact fun H locs ls hP hD hS hl => lv_dup C.1 C.2.1 hd h1 (kk H locs ls hP hD hS hl)
theorem k_pop (C : CX X R y cc nL ret D tys A) {va : Value} (hd : decode cc pc = .ok (.pop, 1)) (h1 : va.category = 1) (hp : pc + 1 = pc') (kk : Wk X R nL D A k n Q ws lv (st) pc') : Wk X R nL D A k n Q ws lv (va :: st) pc := by
  subst hp; exact fun H locs ls hP hD hS hl => lv_pop C.1 C.2.1 hd h1 (kk H locs ls hP hD hS hl)
theorem k_dup_x1 (C : CX X R y cc nL ret D tys A) {va vb : Value} (hd : decode cc pc = .ok (.dup_x1, 1)) (h1 : va.category = 1) (h2 : vb.category = 1) (hp : pc + 1 = pc') (kk : Wk X R nL D A k n Q ws lv (va :: vb :: va :: st) pc') : Wk X R nL D A k n Q ws lv (va :: vb :: st) pc := by
  subst hp; exact fun H locs ls hP hD hS hl => lv_dup_x1 C.1 C.2.1 hd h1 h2 (kk H locs ls hP hD hS hl)
theorem k_dup_x2 (C : CX X R y cc nL ret D tys A) {va vb vd : Value} (hd : decode cc pc = .ok (.dup_x2, 1)) (h1 : va.category = 1) (h2 : vb.category = 1) (h3 : vd.category = 1) (hp : pc + 1 = pc') (kk : Wk X R nL D A k n Q ws lv (va :: vb :: vd :: va :: st) pc') : Wk X R nL D A k n Q ws lv (va :: vb :: vd :: st) pc := by
  subst hp; exact fun H locs ls hP hD hS hl => lv_dup_x2 C.1 C.2.1 hd h1 h2 h3 (kk H locs ls hP hD hS hl)
theorem k_dup2_11 (C : CX X R y cc nL ret D tys A) {va vb : Value} (hd : decode cc pc = .ok (.dup2, 1)) (h1 : va.category = 1) (h2 : vb.category = 1) (hp : pc + 1 = pc') (kk : Wk X R nL D A k n Q ws lv (va :: vb :: va :: vb :: st) pc') : Wk X R nL D A k n Q ws lv (va :: vb :: st) pc := by
  subst hp; exact fun H locs ls hP hD hS hl => lv_dup2_11 C.1 C.2.1 hd h1 h2 (kk H locs ls hP hD hS hl)
theorem k_dup2_2 (C : CX X R y cc nL ret D tys A) {va : Value} (hd : decode cc pc = .ok (.dup2, 1)) (h1 : va.category = 2) (hp : pc + 1 = pc') (kk : Wk X R nL D A k n Q ws lv (va :: va :: st) pc') : Wk X R nL D A k n Q ws lv (va :: st) pc := by
  subst hp; exact fun H locs ls hP hD hS hl => lv_dup2_2 C.1 C.2.1 hd h1 (kk H locs ls hP hD hS hl)
theorem k_dup2_x1_2 (C : CX X R y cc nL ret D tys A) {va vb : Value} (hd : decode cc pc = .ok (.dup2_x1, 1)) (h1 : va.category = 2) (h2 : vb.category = 1) (hp : pc + 1 = pc') (kk : Wk X R nL D A k n Q ws lv (va :: vb :: va :: st) pc') : Wk X R nL D A k n Q ws lv (va :: vb :: st) pc := by
  subst hp; exact fun H locs ls hP hD hS hl => lv_dup2_x1_2 C.1 C.2.1 hd h1 h2 (kk H locs ls hP hD hS hl)
theorem k_null (C : CX X R y cc nL ret D tys A)  (hd : decode cc pc = .ok (.aconst_null, 1))  (hp : pc + 1 = pc') (kk : Wk X R nL D A k n Q ws lv (.null :: st) pc') : Wk X R nL D A k n Q ws lv (st) pc := by
  subst hp; exact fun H locs ls hP hD hS hl => lv_null C.1 C.2.1 hd  (kk H locs ls hP hD hS hl)
-- the conditions are printed as the kit has them: see BRANCHES below
theorem k_if_eq (C : CX X R y cc nL ret D tys A) {x : Int32} {off : Int} {tgt : Nat} (hd : decode cc pc = .ok (.ifCond .eq off, 3)) (ht : (pc : Int) + off = (tgt : Int)) (hp : pc + 3 = pc') (kt : x = 0 → Wk X R nL D A k n Q ws lv st tgt) (kf : ¬ (x = 0) → Wk X R nL D A k n Q ws lv st pc') : Wk X R nL D A k n Q ws lv (.int x :: st) pc := by
  subst hp; exact fun H locs ls hP hD hS hl => lv_if_eq C.1 C.2.1 hd ht (fun q => kt q H locs ls hP hD hS hl) (fun q => kf q H locs ls hP hD hS hl)
theorem k_if_ne (C : CX X R y cc nL ret D tys A) {x : Int32} {off : Int} {tgt : Nat} (hd : decode cc pc = .ok (.ifCond .ne off, 3)) (ht : (pc : Int) + off = (tgt : Int)) (hp : pc + 3 = pc') (kt : ¬ (x = 0) → Wk X R nL D A k n Q ws lv st tgt) (kf : x = 0 → Wk X R nL D A k n Q ws lv st pc') : Wk X R nL D A k n Q ws lv (.int x :: st) pc := by
  subst hp; exact fun H locs ls hP hD hS hl => lv_if_ne C.1 C.2.1 hd ht (fun q => kt q H locs ls hP hD hS hl) (fun q => kf q H locs ls hP hD hS hl)
theorem k_if_lt (C : CX X R y cc nL ret D tys A) {x : Int32} {off : Int} {tgt : Nat} (hd : decode cc pc = .ok (.ifCond .lt off, 3)) (ht : (pc : Int) + off = (tgt : Int)) (hp : pc + 3 = pc') (kt : x < 0 → Wk X R nL D A k n Q ws lv st tgt) (kf : ¬ (x < 0) → Wk X R nL D A k n Q ws lv st pc') : Wk X R nL D A k n Q ws lv (.int x :: st) pc := by
  subst hp; exact fun H locs ls hP hD hS hl => lv_if_lt C.1 C.2.1 hd ht (fun q => kt q H locs ls hP hD hS hl) (fun q => kf q H locs ls hP hD hS hl)
theorem k_if_ge (C : CX X R y cc nL ret D tys A) {x : Int32} {off : Int} {tgt : Nat} (hd : decode cc pc = .ok (.ifCond .ge off, 3)) (ht : (pc : Int) + off = (tgt : Int)) (hp : pc + 3 = pc') (kt : 0 ≤ x → Wk X R nL D A k n Q ws lv st tgt) (kf : ¬ (0 ≤ x) → Wk X R nL D A k n Q ws lv st pc') : Wk X R nL D A k n Q ws lv (.int x :: st) pc := by
  subst hp; exact fun H locs ls hP hD hS hl => lv_if_ge C.1 C.2.1 hd ht (fun q => kt q H locs ls hP hD hS hl) (fun q => kf q H locs ls hP hD hS hl)
theorem k_if_gt (C : CX X R y cc nL ret D tys A) {x : Int32} {off : Int} {tgt : Nat} (hd : decode cc pc = .ok (.ifCond .gt off, 3)) (ht : (pc : Int) + off = (tgt : Int)) (hp : pc + 3 = pc') (kt : 0 < x → Wk X R nL D A k n Q ws lv st tgt) (kf : ¬ (0 < x) → Wk X R nL D A k n Q ws lv st pc') : Wk X R nL D A k n Q ws lv (.int x :: st) pc := by
  subst hp; exact fun H locs ls hP hD hS hl => lv_if_gt C.1 C.2.1 hd ht (fun q => kt q H locs ls hP hD hS hl) (fun q => kf q H locs ls hP hD hS hl)
theorem k_if_le (C : CX X R y cc nL ret D tys A) {x : Int32} {off : Int} {tgt : Nat} (hd : decode cc pc = .ok (.ifCond .le off, 3)) (ht : (pc : Int) + off = (tgt : Int)) (hp : pc + 3 = pc') (kt : x ≤ 0 → Wk X R nL D A k n Q ws lv st tgt) (kf : ¬ (x ≤ 0) → Wk X R nL D A k n Q ws lv st pc') : Wk X R nL D A k n Q ws lv (.int x :: st) pc := by
  subst hp; exact fun H locs ls hP hD hS hl => lv_if_le C.1 C.2.1 hd ht (fun q => kt q H locs ls hP hD hS hl) (fun q => kf q H locs ls hP hD hS hl)
theorem k_icmp_eq (C : CX X R y cc nL ret D tys A) {x y' : Int32} {off : Int} {tgt : Nat} (hd : decode cc pc = .ok (.if_icmp .eq off, 3)) (ht : (pc : Int) + off = (tgt : Int)) (hp : pc + 3 = pc') (kt : x = y' → Wk X R nL D A k n Q ws lv st tgt) (kf : ¬ (x = y') → Wk X R nL D A k n Q ws lv st pc') : Wk X R nL D A k n Q ws lv (.int y' :: .int x :: st) pc := by
  subst hp; exact fun H locs ls hP hD hS hl => lv_icmp_eq C.1 C.2.1 hd ht (fun q => kt q H locs ls hP hD hS hl) (fun q => kf q H locs ls hP hD hS hl)
theorem k_icmp_ne (C : CX X R y cc nL ret D tys A) {x y' : Int32} {off : Int} {tgt : Nat} (hd : decode cc pc = .ok (.if_icmp .ne off, 3)) (ht : (pc : Int) + off = (tgt : Int)) (hp : pc + 3 = pc') (kt : ¬ (x = y') → Wk X R nL D A k n Q ws lv st tgt) (kf : x = y' → Wk X R nL D A k n Q ws lv st pc') : Wk X R nL D A k n Q ws lv (.int y' :: .int x :: st) pc := by
  subst hp; exact fun H locs ls hP hD hS hl => lv_icmp_ne C.1 C.2.1 hd ht (fun q => kt q H locs ls hP hD hS hl) (fun q => kf q H locs ls hP hD hS hl)
theorem k_icmp_lt (C : CX X R y cc nL ret D tys A) {x y' : Int32} {off : Int} {tgt : Nat} (hd : decode cc pc = .ok (.if_icmp .lt off, 3)) (ht : (pc : Int) + off = (tgt : Int)) (hp : pc + 3 = pc') (kt : x < y' → Wk X R nL D A k n Q ws lv st tgt) (kf : ¬ (x < y') → Wk X R nL D A k n Q ws lv st pc') : Wk X R nL D A k n Q ws lv (.int y' :: .int x :: st) pc := by
  subst hp; exact fun H locs ls hP hD hS hl => lv_icmp_lt C.1 C.2.1 hd ht (fun q => kt q H locs ls hP hD hS hl) (fun q => kf q H locs ls hP hD hS hl)
theorem k_icmp_ge (C : CX X R y cc nL ret D tys A) {x y' : Int32} {off : Int} {tgt : Nat} (hd : decode cc pc = .ok (.if_icmp .ge off, 3)) (ht : (pc : Int) + off = (tgt : Int)) (hp : pc + 3 = pc') (kt : y' ≤ x → Wk X R nL D A k n Q ws lv st tgt) (kf : ¬ (y' ≤ x) → Wk X R nL D A k n Q ws lv st pc') : Wk X R nL D A k n Q ws lv (.int y' :: .int x :: st) pc := by
  subst hp; exact fun H locs ls hP hD hS hl => lv_icmp_ge C.1 C.2.1 hd ht (fun q => kt q H locs ls hP hD hS hl) (fun q => kf q H locs ls hP hD hS hl)
theorem k_icmp_gt (C : CX X R y cc nL ret D tys A) {x y' : Int32} {off : Int} {tgt : Nat} (hd : decode cc pc = .ok (.if_icmp .gt off, 3)) (ht : (pc : Int) + off = (tgt : Int)) (hp : pc + 3 = pc') (kt : y' < x → Wk X R nL D A k n Q ws lv st tgt) (kf : ¬ (y' < x) → Wk X R nL D A k n Q ws lv st pc') : Wk X R nL D A k n Q ws lv (.int y' :: .int x :: st) pc := by
  subst hp; exact fun H locs ls hP hD hS hl => lv_icmp_gt C.1 C.2.1 hd ht (fun q => kt q H locs ls hP hD hS hl) (fun q => kf q H locs ls hP hD hS hl)
theorem k_icmp_le (C : CX X R y cc nL ret D tys A) {x y' : Int32} {off : Int} {tgt : Nat} (hd : decode cc pc = .ok (.if_icmp .le off, 3)) (ht : (pc : Int) + off = (tgt : Int)) (hp : pc + 3 = pc') (kt : x ≤ y' → Wk X R nL D A k n Q ws lv st tgt) (kf : ¬ (x ≤ y') → Wk X R nL D A k n Q ws lv st pc') : Wk X R nL D A k n Q ws lv (.int y' :: .int x :: st) pc := by
  subst hp; exact fun H locs ls hP hD hS hl => lv_icmp_le C.1 C.2.1 hd ht (fun q => kt q H locs ls hP hD hS hl) (fun q => kf q H locs ls hP hD hS hl)
theorem k_goto (C : CX X R y cc nL ret D tys A) {off : Int} {tgt : Nat} (hd : decode cc pc = .ok (.goto off, 3)) (ht : (pc : Int) + off = (tgt : Int)) (kk : Wk X R nL D A k n Q ws lv st tgt) : Wk X R nL D A k n Q ws lv st pc :=
  fun H locs ls hP hD hS hl => lv_goto C.1 C.2.1 hd ht (kk H locs ls hP hD hS hl)
theorem k_sub {ws' : va_W} (is : List Nat) (hn : va_nd is = true) (hs : is.map (fun i => ws[i]?) = ws'.map some) (kk : Wk X R nL D A k n Q ws' lv st pc) : Wk X R nL D A k n Q ws lv st pc :=
  fun H locs ls hP hD hS hl => kk H locs ls (fun j q hj => by
    have h1 : (is.map (fun i => ws[i]?))[j]? = some (some q) := by rw [hs, List.getElem?_map, hj]; rfl
    rw [List.getElem?_map] at h1
    cases hi : is[j]? with
    | none => rw [hi] at h1; cases h1
    | some i => rw [hi] at h1; exact hP i q (Option.some.inj h1)) (hD.sub is hn hs) hS hl
theorem k_lpk {lv' : List (Nat × Value)} (ks : List Nat) (hs : lv_pick lv ks = lv') (kk : Wk X R nL D A k n Q ws lv' st pc) : Wk X R nL D A k n Q ws lv st pc :=
  fun H locs ls hP hD hS hl => kk H locs ls hP hD hS (lv_sub hl ks hs)
theorem k_wide {k' n' : Nat} (h1 : k ≤ k') (h2 : n ≤ n') (kk : Wk X R nL D A k' n' Q ws lv st pc) : Wk X R nL D A k n Q ws lv st pc :=
  fun H locs ls hP hD hS hl => W.widen h1 h2 (kk H locs ls hP hD hS hl)
theorem k_lcmp (C : CX X R y cc nL ret D tys A) {x y' : Int64} (hd : decode cc pc = .ok (.lcmp, 1)) (hp : pc + 1 = pc') (kk : Wk X R nL D A k n Q ws lv (.int (lg_cmp x y') :: st) pc') : Wk X R nL D A k n Q ws lv (.long y' :: .long x :: st) pc := by
  subst hp; exact fun H locs ls hP hD hS hl => W.lcmp C.1 C.2.1 hd (kk H locs ls hP hD hS hl)
theorem k_ldc (C : CX X R y cc nL ret D tys A) {index : Nat} {v : Int32} (hd : decode cc pc = .ok (.ldc index, 2)) (hc : Cond.constant y.cls index v ∈ TT) (hp : pc + 2 = pc') (kk : Wk X R nL D A k n Q ws lv (.int v :: st) pc') : Wk X R nL D A k n Q ws lv st pc := by
  subst hp; obtain ⟨hx, hb, hml, hown, hts, hK, hA, hlk, hr, hnm⟩ := C; exact fun H locs ls hP hD hS hl => lv_ldc hx hb hown (hts _ hc) hd (kk H locs ls hP hD hS hl)
theorem k_ldc2 (C : CX X R y cc nL ret D tys A) {index : Nat} {v : Int64} (hd : decode cc pc = .ok (.ldc2_w index, 3)) (hc : Cond.constantLong y.cls index v ∈ TT) (hp : pc + 3 = pc') (kk : Wk X R nL D A k n Q ws lv (.long v :: st) pc') : Wk X R nL D A k n Q ws lv st pc := by
  subst hp; obtain ⟨hx, hb, hml, hown, hts, hK, hA, hlk, hr, hnm⟩ := C; exact fun H locs ls hP hD hS hl => lv_ldc2 hx hb hown (hts _ hc) hd (kk H locs ls hP hD hS hl)
theorem k_ifnull (C : CX X R y cc nL ret D tys A) {x : Nat} {off : Int} (hd : decode cc pc = .ok (.ifnull off, 3)) (hp : pc + 3 = pc') (kk : Wk X R nL D A k n Q ws lv st pc') : Wk X R nL D A k n Q ws lv (.ref x :: st) pc := by
  subst hp; exact fun H locs ls hP hD hS hl => lv_ifnull C.1 C.2.1 hd (kk H locs ls hP hD hS hl)
theorem k_ifnullN (C : CX X R y cc nL ret D tys A) {off : Int} {tgt : Nat} (hd : decode cc pc = .ok (.ifnull off, 3)) (ht : (pc : Int) + off = (tgt : Int)) (kk : Wk X R nL D A k n Q ws lv st tgt) : Wk X R nL D A k n Q ws lv (.null :: st) pc :=
  fun H locs ls hP hD hS hl => lv_ifnullN C.1 C.2.1 hd ht (kk H locs ls hP hD hS hl)
theorem k_ifnonnull (C : CX X R y cc nL ret D tys A) {x : Nat} {off : Int} {tgt : Nat} (hd : decode cc pc = .ok (.ifnonnull off, 3)) (ht : (pc : Int) + off = (tgt : Int)) (kk : Wk X R nL D A k n Q ws lv st tgt) : Wk X R nL D A k n Q ws lv (.ref x :: st) pc :=
  fun H locs ls hP hD hS hl => lv_ifnonnull C.1 C.2.1 hd ht (kk H locs ls hP hD hS hl)
theorem k_ifnonnullN (C : CX X R y cc nL ret D tys A) {off : Int} (hd : decode cc pc = .ok (.ifnonnull off, 3)) (hp : pc + 3 = pc') (kk : Wk X R nL D A k n Q ws lv st pc') : Wk X R nL D A k n Q ws lv (.null :: st) pc := by
  subst hp; exact fun H locs ls hP hD hS hl => lv_ifnonnullN C.1 C.2.1 hd (kk H locs ls hP hD hS hl)
-- fields
variable {index ci : Nat} {CC host : String} {T : u_T} {N : Nat} {a : Nat} {fs : List Value} {v : Value} {ws' : va_W}
theorem k_getf (C : CX X R y cc nL ret D tys A) (hd : decode cc pc = .ok (.getfield index, 3)) (hin : ∀ w ∈ u_ws CC T N, w ∈ TT) (hc : classes[ci]? = some (CC, T, N)) (j : Nat) (hj : j < N) (hlink : Cond.fieldLink y.cls index (T j).1 (T j).2.1 (T j).2.2.1 ∈ TT) (q0 : Nat) (he : ws[q0]? = some (a, .inr (ci, fs))) (hv : fs[j]? = some v) (hp : pc + 3 = pc') (kk : Wk X R nL D A k n Q ws lv (v :: st) pc') : Wk X R nL D A k n Q ws lv (.ref a :: st) pc := by
  subst hp; obtain ⟨hx, hb, hml, hown, hts, hK, hA, hlk, hr, hnm⟩ := C; exact fun H locs ls hP hD hS hl => va_get hx hb hts hin hown hK.1 hP q0 he hc j hj (hts _ hlink) (fun _ h => h) hv hd (kk H locs ls hP hD hS hl)
theorem k_getN (C : CX X R y cc nL ret D tys A) (hd : decode cc pc = .ok (.getfield index, 3)) (hin : ∀ w ∈ u_ws CC T N, w ∈ TT) (hc : classes[ci]? = some (CC, T, N)) (j : Nat) (hj : j < N) (hlink : Cond.fieldLinkNest y.cls index (T j).1 (T j).2.1 (T j).2.2.1 host ∈ NW) (q0 : Nat) (he : ws[q0]? = some (a, .inr (ci, fs))) (hv : fs[j]? = some v) (hp : pc + 3 = pc') (kk : Wk X R nL D A k n Q ws lv (v :: st) pc') : Wk X R nL D A k n Q ws lv (.ref a :: st) pc := by
  subst hp; obtain ⟨hx, hb, hml, hown, hts, hK, hA, hlk, hr, hnm⟩ := C; exact fun H locs ls hP hD hS hl => va_getN hx hb hts hin hown hK.1 hP q0 he hc j hj (va_Nw.use rfl (hK.2.1 _ hlink)) (fun _ h => h) hv hd (kk H locs ls hP hD hS hl)
theorem k_putf (C : CX X R y cc nL ret D tys A) (hd : decode cc pc = .ok (.putfield index, 3)) (hin : ∀ w ∈ u_ws CC T N, w ∈ TT) {ty0 : Nat → FieldType} (hty : ∀ j, j < N → parseFieldDescriptor (T j).2.2.1 = some (ty0 j)) (hnn : ∀ a, a < N → ∀ b, b < N → a ≠ b → (T a).2.1 ≠ (T b).2.1) (hc : classes[ci]? = some (CC, T, N)) (j : Nat) (hj : j < N) (hlink : Cond.fieldLink y.cls index (T j).1 (T j).2.1 (T j).2.2.1 ∈ TT) (hfin : (T j).2.2.2 = false) (q0 : Nat) (he : ws[q0]? = some (a, .inr (ci, fs))) (hn : narrow (ty0 j) v = v) (hfit : fits (ty0 j) v = true) (hl' : j < fs.length) (hw : ws.set q0 (a, .inr (ci, fs.set j v)) = ws') (hp : pc + 3 = pc') (kk : Wk X R nL D A k n Q ws' lv st pc') : Wk X R nL D A k n Q ws lv (v :: .ref a :: st) pc := by
  subst hp; subst hw; obtain ⟨hx, hb, hml, hown, hts, hK, hA, hlk, hr, hnm⟩ := C; exact fun H locs ls hP hD hS hl => va_put hx hb hts hin ty0 hty hnn hown hK.1 hP hD hS q0 he hc j hj (hts _ hlink) (fun _ h => h) hfin (hty j hj) hn hfit hl' hd (fun H1 locs1 hP1 hD1 hS1 => kk H1 locs1 ls hP1 hD1 hS1 hl)
theorem k_putN (C : CX X R y cc nL ret D tys A) (hd : decode cc pc = .ok (.putfield index, 3)) (hin : ∀ w ∈ u_ws CC T N, w ∈ TT) {ty0 : Nat → FieldType} (hty : ∀ j, j < N → parseFieldDescriptor (T j).2.2.1 = some (ty0 j)) (hnn : ∀ a, a < N → ∀ b, b < N → a ≠ b → (T a).2.1 ≠ (T b).2.1) (hc : classes[ci]? = some (CC, T, N)) (j : Nat) (hj : j < N) (hlink : Cond.fieldLinkNest y.cls index (T j).1 (T j).2.1 (T j).2.2.1 host ∈ NW) (hfin : (T j).2.2.2 = false) (q0 : Nat) (he : ws[q0]? = some (a, .inr (ci, fs))) (hn : narrow (ty0 j) v = v) (hfit : fits (ty0 j) v = true) (hl' : j < fs.length) (hw : ws.set q0 (a, .inr (ci, fs.set j v)) = ws') (hp : pc + 3 = pc') (kk : Wk X R nL D A k n Q ws' lv st pc') : Wk X R nL D A k n Q ws lv (v :: .ref a :: st) pc := by
  subst hp; subst hw; obtain ⟨hx, hb, hml, hown, hts, hK, hA, hlk, hr, hnm⟩ := C; exact fun H locs ls hP hD hS hl => va_putN hx hb hts hin ty0 hty hnn hown hK.1 hP hD hS q0 he hc j hj (va_Nw.use rfl (hK.2.1 _ hlink)) (fun _ h => h) hfin (hty j hj) hn hfit hl' hd (fun H1 locs1 hP1 hD1 hS1 => kk H1 locs1 ls hP1 hD1 hS1 hl)
theorem k_putF (C : CX X R y cc nL ret D tys A) (hd : decode cc pc = .ok (.putfield index, 3)) (hin : ∀ w ∈ u_ws CC T N, w ∈ TT) {ty0 : Nat → FieldType} (hty : ∀ j, j < N → parseFieldDescriptor (T j).2.2.1 = some (ty0 j)) (hnn : ∀ a, a < N → ∀ b, b < N → a ≠ b → (T a).2.1 ≠ (T b).2.1) (hc : classes[ci]? = some (CC, T, N)) (j : Nat) (hj : j < N) (hlink : Cond.fieldLink y.cls index (T j).1 (T j).2.1 (T j).2.2.1 ∈ TT) (hfin : (T j).2.2.2 = true) (hi : y.name = "<init>") (hdecl : (T j).1 = y.cls) (q0 : Nat) (he : ws[q0]? = some (a, .inr (ci, fs))) (hn : narrow (ty0 j) v = v) (hfit : fits (ty0 j) v = true) (hl' : j < fs.length) (hw : ws.set q0 (a, .inr (ci, fs.set j v)) = ws') (hp : pc + 3 = pc') (kk : Wk X R nL D A k n Q ws' lv st pc') : Wk X R nL D A k n Q ws lv (v :: .ref a :: st) pc := by
  subst hp; subst hw; obtain ⟨hx, hb, hml, hown, hts, hK, hA, hlk, hr, hnm⟩ := C; exact fun H locs ls hP hD hS hl => va_putF hx hb hts hin ty0 hty hnn hown hK.1 hP hD hS q0 he hc j hj (hts _ hlink) (fun _ h => h) hfin (hnm.trans hi) hdecl (hty j hj) hn hfit hl' hd (fun H1 locs1 hP1 hD1 hS1 => kk H1 locs1 ls hP1 hD1 hS1 hl)
-- arrays
variable {cA : ClassId} {len : Nat}
theorem k_alen (C : CX X R y cc nL ret D tys A) {x : vp_A} {ty : FieldType} {z : Int32} (hd : decode cc pc = .ok (.arraylength, 1)) (q0 t0 : Nat) (ha : ws[q0]? = some (a, .inl (cA, x))) (ht : tys[t0]? = some (cA, ty)) (hz : Int32.ofNat x.1 = z) (hp : pc + 1 = pc') (kk : Wk X R nL D A k n Q ws lv (.int z :: st) pc') : Wk X R nL D A k n Q ws lv (.ref a :: st) pc := by
  subst hp; obtain ⟨hx, hb, hml, hown, hts, hK, hA, hlk, hr, hnm⟩ := C; exact fun H locs ls hP hD hS hl => va_alen hx hb hK.1 hP q0 t0 ha ht hz hd (kk H locs ls hP hD hS hl)
theorem k_iald (C : CX X R y cc nL ret D tys A) {f : Nat → Int32} {i : Int32} (hd : decode cc pc = .ok (.iaload, 1)) (q0 t0 : Nat) (ha : ws[q0]? = some (a, .inl (cA, len, .inl f))) (ht : tys[t0]? = some (cA, .int)) (hi : vp_in i len) (hp : pc + 1 = pc') (kk : Wk X R nL D A k n Q ws lv (.int (f i.toNatClampNeg) :: st) pc') : Wk X R nL D A k n Q ws lv (.int i :: .ref a :: st) pc := by
  subst hp; obtain ⟨hx, hb, hml, hown, hts, hK, hA, hlk, hr, hnm⟩ := C; exact fun H locs ls hP hD hS hl => va_iald hx hb hK.1 hP q0 t0 ha ht hi hd (kk H locs ls hP hD hS hl)
theorem k_iast (C : CX X R y cc nL ret D tys A) {f : Nat → Int32} {i : Int32} {x : Int32} (hd : decode cc pc = .ok (.iastore, 1)) (q0 t0 : Nat) (ha : ws[q0]? = some (a, .inl (cA, len, .inl f))) (ht : tys[t0]? = some (cA, .int)) (hi : vp_in i len) (hw : ws.set q0 (a, .inl (cA, len, .inl (upd f i.toNatClampNeg x))) = ws') (hp : pc + 1 = pc') (kk : Wk X R nL D A k n Q ws' lv st pc') : Wk X R nL D A k n Q ws lv (.int x :: .int i :: .ref a :: st) pc := by
  subst hp; subst hw; obtain ⟨hx, hb, hml, hown, hts, hK, hA, hlk, hr, hnm⟩ := C; exact fun H locs ls hP hD hS hl => va_iast hx hb hK.1 hP hD hS q0 t0 ha ht hi hd (fun H1 locs1 hP1 hD1 hS1 => kk H1 locs1 ls hP1 hD1 hS1 hl)
theorem k_cald (C : CX X R y cc nL ret D tys A) {f : Nat → Int32} {i : Int32} (hd : decode cc pc = .ok (.caload, 1)) (q0 t0 : Nat) (ha : ws[q0]? = some (a, .inl (cA, len, .inl f))) (ht : tys[t0]? = some (cA, .char)) (hi : vp_in i len) (hp : pc + 1 = pc') (kk : Wk X R nL D A k n Q ws lv (.int (f i.toNatClampNeg) :: st) pc') : Wk X R nL D A k n Q ws lv (.int i :: .ref a :: st) pc := by
  subst hp; obtain ⟨hx, hb, hml, hown, hts, hK, hA, hlk, hr, hnm⟩ := C; exact fun H locs ls hP hD hS hl => va_cald hx hb hK.1 hP q0 t0 ha ht hi hd (kk H locs ls hP hD hS hl)
theorem k_cast (C : CX X R y cc nL ret D tys A) {f : Nat → Int32} {i : Int32} {x : Int32} (hd : decode cc pc = .ok (.castore, 1)) (q0 t0 : Nat) (ha : ws[q0]? = some (a, .inl (cA, len, .inl f))) (ht : tys[t0]? = some (cA, .char)) (hi : vp_in i len) (hw : ws.set q0 (a, .inl (cA, len, .inl (upd f i.toNatClampNeg (vp_nar .char x)))) = ws') (hp : pc + 1 = pc') (kk : Wk X R nL D A k n Q ws' lv st pc') : Wk X R nL D A k n Q ws lv (.int x :: .int i :: .ref a :: st) pc := by
  subst hp; subst hw; obtain ⟨hx, hb, hml, hown, hts, hK, hA, hlk, hr, hnm⟩ := C; exact fun H locs ls hP hD hS hl => va_cast hx hb hK.1 hP hD hS q0 t0 ha ht hi hd (fun H1 locs1 hP1 hD1 hS1 => kk H1 locs1 ls hP1 hD1 hS1 hl)
theorem k_bald (C : CX X R y cc nL ret D tys A) {f : Nat → Int32} {i : Int32} (hd : decode cc pc = .ok (.baload, 1)) (q0 t0 : Nat) (ha : ws[q0]? = some (a, .inl (cA, len, .inl f))) (ht : tys[t0]? = some (cA, .byte)) (hi : vp_in i len) (hp : pc + 1 = pc') (kk : Wk X R nL D A k n Q ws lv (.int (f i.toNatClampNeg) :: st) pc') : Wk X R nL D A k n Q ws lv (.int i :: .ref a :: st) pc := by
  subst hp; obtain ⟨hx, hb, hml, hown, hts, hK, hA, hlk, hr, hnm⟩ := C; exact fun H locs ls hP hD hS hl => va_bald hx hb hK.1 hP q0 t0 ha ht hi hd (kk H locs ls hP hD hS hl)
theorem k_bast (C : CX X R y cc nL ret D tys A) {f : Nat → Int32} {i : Int32} {x : Int32} (hd : decode cc pc = .ok (.bastore, 1)) (q0 t0 : Nat) (ha : ws[q0]? = some (a, .inl (cA, len, .inl f))) (ht : tys[t0]? = some (cA, .byte)) (hi : vp_in i len) (hw : ws.set q0 (a, .inl (cA, len, .inl (upd f i.toNatClampNeg (vp_nar .byte x)))) = ws') (hp : pc + 1 = pc') (kk : Wk X R nL D A k n Q ws' lv st pc') : Wk X R nL D A k n Q ws lv (.int x :: .int i :: .ref a :: st) pc := by
  subst hp; subst hw; obtain ⟨hx, hb, hml, hown, hts, hK, hA, hlk, hr, hnm⟩ := C; exact fun H locs ls hP hD hS hl => va_bast hx hb hK.1 hP hD hS q0 t0 ha ht hi hd (fun H1 locs1 hP1 hD1 hS1 => kk H1 locs1 ls hP1 hD1 hS1 hl)
theorem k_zald (C : CX X R y cc nL ret D tys A) {f : Nat → Int32} {i : Int32} (hd : decode cc pc = .ok (.baload, 1)) (q0 t0 : Nat) (ha : ws[q0]? = some (a, .inl (cA, len, .inl f))) (ht : tys[t0]? = some (cA, .boolean)) (hi : vp_in i len) (hp : pc + 1 = pc') (kk : Wk X R nL D A k n Q ws lv (.int (f i.toNatClampNeg) :: st) pc') : Wk X R nL D A k n Q ws lv (.int i :: .ref a :: st) pc := by
  subst hp; obtain ⟨hx, hb, hml, hown, hts, hK, hA, hlk, hr, hnm⟩ := C; exact fun H locs ls hP hD hS hl => va_zald hx hb hK.1 hP q0 t0 ha ht hi hd (kk H locs ls hP hD hS hl)
theorem k_zast (C : CX X R y cc nL ret D tys A) {f : Nat → Int32} {i : Int32} {x : Int32} (hd : decode cc pc = .ok (.bastore, 1)) (q0 t0 : Nat) (ha : ws[q0]? = some (a, .inl (cA, len, .inl f))) (ht : tys[t0]? = some (cA, .boolean)) (hi : vp_in i len) (hw : ws.set q0 (a, .inl (cA, len, .inl (upd f i.toNatClampNeg (vp_nar .boolean x)))) = ws') (hp : pc + 1 = pc') (kk : Wk X R nL D A k n Q ws' lv st pc') : Wk X R nL D A k n Q ws lv (.int x :: .int i :: .ref a :: st) pc := by
  subst hp; subst hw; obtain ⟨hx, hb, hml, hown, hts, hK, hA, hlk, hr, hnm⟩ := C; exact fun H locs ls hP hD hS hl => va_zast hx hb hK.1 hP hD hS q0 t0 ha ht hi hd (fun H1 locs1 hP1 hD1 hS1 => kk H1 locs1 ls hP1 hD1 hS1 hl)
theorem k_sald (C : CX X R y cc nL ret D tys A) {f : Nat → Int32} {i : Int32} (hd : decode cc pc = .ok (.saload, 1)) (q0 t0 : Nat) (ha : ws[q0]? = some (a, .inl (cA, len, .inl f))) (ht : tys[t0]? = some (cA, .short)) (hi : vp_in i len) (hp : pc + 1 = pc') (kk : Wk X R nL D A k n Q ws lv (.int (f i.toNatClampNeg) :: st) pc') : Wk X R nL D A k n Q ws lv (.int i :: .ref a :: st) pc := by
  subst hp; obtain ⟨hx, hb, hml, hown, hts, hK, hA, hlk, hr, hnm⟩ := C; exact fun H locs ls hP hD hS hl => va_sald hx hb hK.1 hP q0 t0 ha ht hi hd (kk H locs ls hP hD hS hl)
theorem k_sast (C : CX X R y cc nL ret D tys A) {f : Nat → Int32} {i : Int32} {x : Int32} (hd : decode cc pc = .ok (.sastore, 1)) (q0 t0 : Nat) (ha : ws[q0]? = some (a, .inl (cA, len, .inl f))) (ht : tys[t0]? = some (cA, .short)) (hi : vp_in i len) (hw : ws.set q0 (a, .inl (cA, len, .inl (upd f i.toNatClampNeg (vp_nar .short x)))) = ws') (hp : pc + 1 = pc') (kk : Wk X R nL D A k n Q ws' lv st pc') : Wk X R nL D A k n Q ws lv (.int x :: .int i :: .ref a :: st) pc := by
  subst hp; subst hw; obtain ⟨hx, hb, hml, hown, hts, hK, hA, hlk, hr, hnm⟩ := C; exact fun H locs ls hP hD hS hl => va_sast hx hb hK.1 hP hD hS q0 t0 ha ht hi hd (fun H1 locs1 hP1 hD1 hS1 => kk H1 locs1 ls hP1 hD1 hS1 hl)
theorem k_lald (C : CX X R y cc nL ret D tys A) {f : Nat → Int64} {i : Int32} (hd : decode cc pc = .ok (.laload, 1)) (q0 t0 : Nat) (ha : ws[q0]? = some (a, .inl (cA, len, .inr (.inl f)))) (ht : tys[t0]? = some (cA, .long)) (hi : vp_in i len) (hp : pc + 1 = pc') (kk : Wk X R nL D A k n Q ws lv (.long (f i.toNatClampNeg) :: st) pc') : Wk X R nL D A k n Q ws lv (.int i :: .ref a :: st) pc := by
  subst hp; obtain ⟨hx, hb, hml, hown, hts, hK, hA, hlk, hr, hnm⟩ := C; exact fun H locs ls hP hD hS hl => va_lald hx hb hK.1 hP q0 t0 ha ht hi hd (kk H locs ls hP hD hS hl)
theorem k_last (C : CX X R y cc nL ret D tys A) {f : Nat → Int64} {i : Int32} {x : Int64} (hd : decode cc pc = .ok (.lastore, 1)) (q0 t0 : Nat) (ha : ws[q0]? = some (a, .inl (cA, len, .inr (.inl f)))) (ht : tys[t0]? = some (cA, .long)) (hi : vp_in i len) (hw : ws.set q0 (a, .inl (cA, len, .inr (.inl (vp_updL f i.toNatClampNeg x)))) = ws') (hp : pc + 1 = pc') (kk : Wk X R nL D A k n Q ws' lv st pc') : Wk X R nL D A k n Q ws lv (.long x :: .int i :: .ref a :: st) pc := by
  subst hp; subst hw; obtain ⟨hx, hb, hml, hown, hts, hK, hA, hlk, hr, hnm⟩ := C; exact fun H locs ls hP hD hS hl => va_last hx hb hK.1 hP hD hS q0 t0 ha ht hi hd (fun H1 locs1 hP1 hD1 hS1 => kk H1 locs1 ls hP1 hD1 hS1 hl)
theorem k_aldq (C : CX X R y cc nL ret D tys A) {f : Nat → Option Nat} {i : Int32} (hd : decode cc pc = .ok (.aaload, 1)) (q0 t0 : Nat) (ha : ws[q0]? = some (a, .inl (cA, len, .inr (.inr (.inr (.inr f)))))) (ht : tys[t0]? = some (cA, .object CC)) (hi : vp_in i len) (hv : va_rf (f i.toNatClampNeg) = v) (hp : pc + 1 = pc') (kk : Wk X R nL D A k n Q ws lv (v :: st) pc') : Wk X R nL D A k n Q ws lv (.int i :: .ref a :: st) pc := by
  subst hp; subst hv; obtain ⟨hx, hb, hml, hown, hts, hK, hA, hlk, hr, hnm⟩ := C; exact fun H locs ls hP hD hS hl => va_aldq hx hb hK.1 hP q0 t0 ha ht hi hd (kk H locs ls hP hD hS hl)
theorem k_astq (C : CX X R y cc nL ret D tys A) {f : Nat → Option Nat} {i : Int32} {b : Nat} {rc : vw_C} (hd : decode cc pc = .ok (.aastore, 1)) (q0 t0 : Nat) (ha : ws[q0]? = some (a, .inl (cA, len, .inr (.inr (.inr (.inr f)))))) (ht : tys[t0]? = some (cA, .object rc.1)) (qk : Nat) (hb' : ws[qk]? = some (b, .inr (ci, fs))) (hc : classes[ci]? = some rc) (hi : vp_in i len) (hw : ws.set q0 (a, .inl (cA, len, .inr (.inr (.inr (.inr (va_up f i.toNatClampNeg (some b))))))) = ws') (hp : pc + 1 = pc') (kk : Wk X R nL D A k n Q ws' lv st pc') : Wk X R nL D A k n Q ws lv (.ref b :: .int i :: .ref a :: st) pc := by
  subst hp; subst hw; obtain ⟨hx, hb, hml, hown, hts, hK, hA, hlk, hr, hnm⟩ := C; exact fun H locs ls hP hD hS hl => va_astq hx hb hK.1 hP hD hS q0 t0 qk ci ha ht hb' hc hi hd (fun H1 locs1 hP1 hD1 hS1 => kk H1 locs1 ls hP1 hD1 hS1 hl)
theorem k_copyl (C : CX X R y cc nL ret D tys A) {f g : Nat → Int64} {a0 len0 : Nat} {c0 : ClassId} {sp dp m' : Int32} (hd : decode cc pc = .ok (.invokestatic index, 3)) (hlink : Cond.methodLink y.cls index arraycopyName ∈ TT) (hac : Cond.native arraycopyName ∈ TT ∧ Cond.static arraycopyName ∈ TT ∧ Cond.initialized "java/lang/System" ∈ TT) (q0 q1 t0 t1 : Nat) (ha0 : ws[q0]? = some (a0, .inl (c0, len0, .inr (.inl f)))) (ha1 : ws[q1]? = some (a, .inl (cA, len, .inr (.inl g)))) (ht0 : tys[t0]? = some (c0, .long)) (ht1 : tys[t1]? = some (cA, .long)) (hg : ¬ sp < 0 ∧ ¬ dp < 0 ∧ ¬ m' < 0 ∧ sp.toNatClampNeg + m'.toNatClampNeg ≤ len0 ∧ dp.toNatClampNeg + m'.toNatClampNeg ≤ len) (hfr : 1 ≤ R.frames) (hlo : (st.map fun v => v.category).sum + (nativeFrameWords "java/lang/System" "arraycopy" 5 + 11) ≤ R.locals) (hw : ws.set q1 (a, .inl (cA, len, .inr (.inl (va_cpy f g sp.toNatClampNeg dp.toNatClampNeg m'.toNatClampNeg)))) = ws') (hp : pc + 3 = pc') (kk : Wk X R nL D A k n Q ws' lv st pc') : Wk X R nL D A k n Q ws lv (.int m' :: .int dp :: .ref a :: .int sp :: .ref a0 :: st) pc := by
  subst hp; subst hw; obtain ⟨hx, hb, hml, hown, hts, hK, hA, hlk, hr, hnm⟩ := C; exact fun H locs ls hP hD hS hl => va_copyl hx hb (hml.trans hl.1.symm) hown (hts _ hlink) (hts _ hac.1) (hts _ hac.2.1) (hts _ hac.2.2) hK.1 hP hD hS q0 q1 t0 t1 ha0 ha1 ht0 ht1 rfl hg.1 hg.2.1 hg.2.2.1 hg.2.2.2.1 hg.2.2.2.2 (fun _ _ => rfl) hfr hlo hd (fun H1 locs1 hP1 hD1 hS1 => kk H1 locs1 ls hP1 hD1 hS1 hl)
theorem k_copyi (C : CX X R y cc nL ret D tys A) {f g : Nat → Int32} {a0 len0 : Nat} {c0 : ClassId} {sp dp m' : Int32} (hd : decode cc pc = .ok (.invokestatic index, 3)) (hlink : Cond.methodLink y.cls index arraycopyName ∈ TT) (hac : Cond.native arraycopyName ∈ TT ∧ Cond.static arraycopyName ∈ TT ∧ Cond.initialized "java/lang/System" ∈ TT) (q0 q1 t0 t1 : Nat) (ha0 : ws[q0]? = some (a0, .inl (c0, len0, .inl f))) (ha1 : ws[q1]? = some (a, .inl (cA, len, .inl g))) (ht0 : tys[t0]? = some (c0, .int)) (ht1 : tys[t1]? = some (cA, .int)) (hg : ¬ sp < 0 ∧ ¬ dp < 0 ∧ ¬ m' < 0 ∧ sp.toNatClampNeg + m'.toNatClampNeg ≤ len0 ∧ dp.toNatClampNeg + m'.toNatClampNeg ≤ len) (hfr : 1 ≤ R.frames) (hlo : (st.map fun v => v.category).sum + (nativeFrameWords "java/lang/System" "arraycopy" 5 + 11) ≤ R.locals) (hw : ws.set q1 (a, .inl (cA, len, .inl (va_cpy f g sp.toNatClampNeg dp.toNatClampNeg m'.toNatClampNeg))) = ws') (hp : pc + 3 = pc') (kk : Wk X R nL D A k n Q ws' lv st pc') : Wk X R nL D A k n Q ws lv (.int m' :: .int dp :: .ref a :: .int sp :: .ref a0 :: st) pc := by
  subst hp; subst hw; obtain ⟨hx, hb, hml, hown, hts, hK, hA, hlk, hr, hnm⟩ := C; exact fun H locs ls hP hD hS hl => va_copyi hx hb (hml.trans hl.1.symm) hown (hts _ hlink) (hts _ hac.1) (hts _ hac.2.1) (hts _ hac.2.2) hK.1 hP hD hS q0 q1 t0 t1 ha0 ha1 ht0 ht1 rfl hg.1 hg.2.1 hg.2.2.1 hg.2.2.2.1 hg.2.2.2.2 (fun _ _ => rfl) hfr hlo hd (fun H1 locs1 hP1 hD1 hS1 => kk H1 locs1 ls hP1 hD1 hS1 hl)
-- makings
theorem k_newa (C : CX X R y cc nL ret D tys A) {atype : ArrayType} {ty : FieldType} {i : Int32} {N' : Nat} {a0 : vp_A} (hd : decode cc pc = .ok (.newarray atype, 2)) (harr : Cond.arrayClass (newarray.typeOf atype) ∈ TT) (hty : newarray.typeOf atype = ty) (hfc : ∀ (U : State) (c : ClassId), va_RA U c ty → U.vm.findClass ("[" ++ ty.toString) = some c) (t0 : Nat) (ht : tys[t0]? = some (cA, ty)) (ha : ∀ c : ClassId, vp_cell c a0 = arrV c N' (fun _ => defaultValue ty)) (h0 : ¬ i < 0) (hN : i.toNatClampNeg = N') (hby : N' * componentBytes ty ≤ 536870912) (hcells : k + 1 ≤ R.cells) (hslots : n + N' ≤ R.slots) (hp : pc + 2 = pc') (kk : ∀ q : Nat, Wk X R nL D A (k + 1) (n + N') Q (ws ++ [(q, .inl (cA, a0))]) lv (.ref q :: st) pc') : Wk X R nL D A k n Q ws lv (.int i :: st) pc := by
  subst hp; obtain ⟨hx, hb, hml, hown, hts, hK, hA, hlk, hr, hnm⟩ := C; exact fun H locs ls hP hD hS hl => va_newa hx hb (hts _ harr) hty hK.1 hP hD hS hA ha h0 hN hby hcells hslots hd (fun q c2 H1 hK1 hP1 hD1 hS1 => by
    have e1 := hfc _ _ (hK.1.2 t0 _ ht).2
    have e2 := hfc _ _ (hK1.2 tys.length (c2, ty) (by simp)).2
    have e3 : c2 = cA := Option.some.inj (e2.symm.trans e1)
    subst e3
    exact kk q H1 locs ls hP1 hD1 hS1 hl)
theorem k_newq (C : CX X R y cc nL ret D tys A) {i : Int32} {N' : Nat} (hd : decode cc pc = .ok (.anewarray index, 3)) (hcl : Cond.classLink y.cls index CC ∈ TT) (hov : ∀ s : State, gK D tys s → va_AO CC s) (t0 : Nat) (ht : tys[t0]? = some (cA, .object CC)) (h0 : ¬ i < 0) (hN : i.toNatClampNeg = N') (hby : N' * 4 ≤ 536870912) (hcells : k + 1 ≤ R.cells) (hslots : n + N' ≤ R.slots) (hp : pc + 3 = pc') (kk : ∀ q : Nat, Wk X R nL D A (k + 1) (n + N') Q (ws ++ [(q, .inl (cA, N', .inr (.inr (.inr (.inr (fun _ => none))))))]) lv (.ref q :: st) pc') : Wk X R nL D A k n Q ws lv (.int i :: st) pc := by
  subst hp; obtain ⟨hx, hb, hml, hown, hts, hK, hA, hlk, hr, hnm⟩ := C; exact fun H locs ls hP hD hS hl => va_newq hx hb hown (hts _ hcl) (hov _ hK) hK.1 hP hD hS hA h0 hN hby hcells hslots hd (fun q c2 H1 hK1 hP1 hD1 hS1 => by
    obtain ⟨_, _, _, _, _, e1⟩ := (hK.1.2 t0 _ ht).2
    obtain ⟨_, _, _, _, _, e2⟩ := (hK1.2 tys.length (c2, .object CC) (by simp)).2
    have e3 : c2 = cA := Option.some.inj (e2.symm.trans e1)
    subst e3
    exact kk q H1 locs ls hP1 hD1 hS1 hl)
theorem k_new (C : CX X R y cc nL ret D tys A) {ty0 : Nat → FieldType} (hd : decode cc pc = .ok (.new index, 3)) (hin : ∀ w ∈ u_ws CC T N, w ∈ TT) (hty : ∀ j, j < N → parseFieldDescriptor (T j).2.2.1 = some (ty0 j)) (hc : classes[ci]? = some (CC, T, N)) (hcl : Cond.classLink y.cls index CC ∈ TT) (hi : Cond.instantiable CC N ∈ TT ∧ Cond.initialized CC ∈ TT) (hfs : ∀ j, j < N → defaultValue (ty0 j) = vp_V fs j) (hcells : k + 1 ≤ R.cells) (hslots : n + N ≤ R.slots) (hp : pc + 3 = pc') (kk : ∀ q : Nat, Wk X R nL D A (k + 1) (n + N) Q (ws ++ [(q, .inr (ci, fs))]) lv (.ref q :: st) pc') : Wk X R nL D A k n Q ws lv st pc := by
  subst hp; obtain ⟨hx, hb, hml, hown, hts, hK, hA, hlk, hr, hnm⟩ := C; exact fun H locs ls hP hD hS hl => va_new hx hb hts hin ty0 hty hown (hts _ hcl) (hts _ hi.1) (hts _ hi.2) hK.1 hP hD hS hA hc hfs hcells hslots hd (fun q H1 hP1 hD1 hS1 => kk q H1 locs ls hP1 hD1 hS1 hl)
theorem k_objInit (C : CX X R y cc nL ret D tys A) (hd : decode cc pc = .ok (.invokespecial index, 3)) (hlink : Cond.methodLink y.cls index Lib.objectInit ∈ TT) (ho : Cond.instanceMethod Lib.objectInit ∈ TT ∧ Cond.code Lib.objectInit ⟨#[0xb1]⟩ 1 none ∈ TT) (hfr : 1 ≤ R.frames) (hlo : (st.map fun v => v.category).sum + 12 ≤ R.locals) (hp : pc + 3 = pc') (kk : Wk X R nL D A k n Q ws lv st pc') : Wk X R nL D A k n Q ws lv (.ref a :: st) pc := by
  subst hp; obtain ⟨hx, hb, hml, hown, hts, hK, hA, hlk, hr, hnm⟩ := C; exact fun H locs ls hP hD hS hl => W.objInit hx hb hown (hts _ hlink) (hts _ ho.1) (hts _ ho.2) rfl (hl.1.trans hml.symm) rfl hd hfr (by show 2 * 0 + _ + 12 ≤ _; omega) (kk H locs ls hP hD hS hl)
-- ends
variable {ws0 : va_W} {Qs : Option Value → va_W → Prop}
theorem k_iret (C : CX X R y cc nL (some .int) D tys (va_A ws0 (xs X).heap.size)) {z : Int32} (hd : decode cc pc = .ok (.ireturn, 1)) (hq : Qs (some (.int z)) ws) : Wk X R nL D (va_A ws0 (xs X).heap.size) k n (GE X D ws0 Qs k n) ws lv [.int z] pc := by
  obtain ⟨hx, hb, hml, hown, hts, hK, hA, hlk, hr, hnm⟩ := C; exact fun H locs ls hP hD hS hl => W.iret hx hb hr (fun t ht hW => ⟨⟨_, _, rfl, hq, by rw [ht]; exact hP, hD⟩, hS.F ht⟩) hS.2.2 hd hlk
theorem k_zret {ty : FieldType} (C : CX X R y cc nL (some ty) D tys (va_A ws0 (xs X).heap.size)) {z : Int32} (hd : decode cc pc = .ok (.ireturn, 1)) (hz : narrow ty (.int z) = .int z) (hq : Qs (some (.int z)) ws) : Wk X R nL D (va_A ws0 (xs X).heap.size) k n (GE X D ws0 Qs k n) ws lv [.int z] pc := by
  obtain ⟨hx, hb, hml, hown, hts, hK, hA, hlk, hr, hnm⟩ := C; exact fun H locs ls hP hD hS hl => W.zret hx hb hr hz (fun t ht hW => ⟨⟨_, _, rfl, hq, by rw [ht]; exact hP, hD⟩, hS.F ht⟩) hS.2.2 hd hlk
theorem k_lret (C : CX X R y cc nL (some .long) D tys (va_A ws0 (xs X).heap.size)) {z : Int64} (hd : decode cc pc = .ok (.lreturn, 1)) (hq : Qs (some (.long z)) ws) : Wk X R nL D (va_A ws0 (xs X).heap.size) k n (GE X D ws0 Qs k n) ws lv [.long z] pc := by
  obtain ⟨hx, hb, hml, hown, hts, hK, hA, hlk, hr, hnm⟩ := C; exact fun H locs ls hP hD hS hl => W.lret hx hb hr (fun t ht hW => ⟨⟨_, _, rfl, hq, by rw [ht]; exact hP, hD⟩, hS.F ht⟩) hS.2.2 hd hlk
theorem k_vret (C : CX X R y cc nL none D tys (va_A ws0 (xs X).heap.size)) (hd : decode cc pc = .ok (.return_, 1)) (hq : Qs none ws) : Wk X R nL D (va_A ws0 (xs X).heap.size) k n (GE X D ws0 Qs k n) ws lv [] pc := by
  obtain ⟨hx, hb, hml, hown, hts, hK, hA, hlk, hr, hnm⟩ := C; exact fun H locs ls hP hD hS hl => W.vret hx hb hr (fun t ht hW => ⟨⟨_, _, rfl, hq, by rw [ht]; exact hP, hD⟩, hS.F ht⟩) hS.2.2 hd hlk
theorem k_aret {rt : FieldType} (C : CX X R y cc nL (some rt) D tys (va_A ws0 (xs X).heap.size)) (hrt : (∃ m, rt = .object m) ∨ ∃ t, rt = .array t) (hv : v = .null ∨ ∃ b, v = .ref b) (hd : decode cc pc = .ok (.areturn, 1)) (hq : Qs (some v) ws) : Wk X R nL D (va_A ws0 (xs X).heap.size) k n (GE X D ws0 Qs k n) ws lv [v] pc := by
  obtain ⟨hx, hb, hml, hown, hts, hK, hA, hlk, hr, hnm⟩ := C; exact fun H locs ls hP hD hS hl => W.aret hx hb hr hrt hv (fun t ht hW => ⟨⟨_, _, rfl, hq, by rw [ht]; exact hP, hD⟩, hS.F ht⟩) hS.2.2 hd hlk
-- calls
theorem gP_sub {H : Heap} (is : List Nat) (hs : is.map (fun i => ws[i]?) = ws'.map some) (hP : va_P D classes ws H) : va_P D classes ws' H := fun j q hj => by
  have h1 : (is.map (fun i => ws[i]?))[j]? = some (some q) := by rw [hs, List.getElem?_map, hj]; rfl
  rw [List.getElem?_map] at h1
  cases hi : is[j]? with
  | none => rw [hi] at h1; cases h1
  | some i => rw [hi] at h1; exact hP i q (Option.some.inj h1)
def gBlind (D : va_G) (tys : GT) (sz : Nat) (ws : va_W) (av : List Value) : FrameBlind (va_Pc av (fun U => U.heap.size = sz ∧ va_P D classes ws U.heap ∧ gK D tys U ∧ va_D (fun _ => True) ws)) := fun a U g mk q => by
  obtain ⟨q0, q1, qP, qK, qD⟩ := q
  exact ⟨q0, q1, qP, qK.call, qD⟩
theorem k_after {p : Program} {l : Launch} {e : Env} {s : State} {m : MethodId} {args : Array Value} {below : List Frame} {meth : Method} {c : Code} {H H0 : Heap} {locs : List Loc} {wc : va_W} {mc ms : Nat} {ls : Array Slot} {stk : List Value} {av : Array Value} (hr : va_Run p l e R s m args below meth c H locs k n mc ms (F0 m pc ls stk) st (GQ D wc H.size Qs av) (va_A wc H.size)) (hS : va_S A H0 H locs) (hF : ∀ q, va_A wc H.size q → A q)
    (kk : ∀ (o : Option Value) (w : va_W) (H1 : Heap) (locs1 : List Loc), Qs o w → va_P D classes w H1 → va_D (va_A wc H.size) w → (∀ q : Nat, q < H.size → ¬ va_A wc H.size q → H1[q]? = H[q]?) → va_S A H0 H1 locs1 → W p l e R s m args below meth c H1 locs1 (k + mc) (n + ms) Q (F0 m (pc + 3) ls (o.toList ++ st))) : W p l e R s m args below meth c H locs k n Q (F0 m pc ls stk) := by
  intro T hT X
  obtain ⟨v, st₀, t, T', L, h0, X', hL, e1, e2, ⟨⟨o, w, hv, hq, hp, hd⟩, hz, hk⟩, stp⟩ := hr T hT X
  cases hv
  rw [h0] at hz hk
  obtain ⟨t2, a1, b1⟩ := kk v w T'.heap (locs ++ L) hq (by rw [e1]; exact hp) hd (fun q h1 h2 => by rw [e1]; exact hk q h1 h2)
    ⟨Nat.le_trans hS.1 (by rw [e1]; exact hz), fun q h1 h2 => by rw [e1, hk q (Nat.lt_of_lt_of_le h1 hS.1) (fun z => h2 (hF q z))]; exact hS.2.1 q h1 h2, fun q hq => by
      rcases List.mem_append.mp hq with h | h
      · exact hS.2.2 q h
      · exact hF _ (hL q h)⟩ T' rfl X'
  exact ⟨t2, stp t2 a1, b1⟩
variable {y2 : MethodName} {cc2 : ByteArray} {nL2 : Nat} {ret2 : Option FieldType} {rm2 : Room} {b : Nat} {As : List Value} {wc wr : va_W} {stk : List Value}
/-- what the tables say of a callee -/
def CO (y2 : MethodName) (cc2 : ByteArray) (nL2 : Nat) (ret2 : Option FieldType) (np : Nat) : Prop := Cond.code y2 cc2 nL2 ret2 ∈ TT ∧ Cond.initialized y2.cls ∈ TT ∧ (y2.cls ≠ "java/lang/invoke/MethodHandle" ∧ y2.cls ≠ "java/lang/invoke/VarHandle" ∧ (parseMethodDescriptor y2.desc).map (fun d => d.parameters.length) = some np)
def COV (y2 : MethodName) : Prop := Cond.instanceMethod y2 ∈ TT ∧ Cond.selects y2.cls y2 y2 ∈ TT
theorem k_callV (C : CX X R y cc nL ret D tys A) (hd : decode cc pc = .ok (.invokevirtual index, 3)) (hM : GM (xl X) D tys y2 cc2 nL2 ret2 rm2 (.ref b :: As) wc Qs) (ho : CO y2 cc2 nL2 ret2 As.length) (hv : COV y2) (hl' : Cond.methodLink y.cls index y2 ∈ TT) (q0 : Nat) (he : ws[q0]? = some (b, .inr (ci, fs))) (hc : classes[ci]? = some (y2.cls, T, N)) (hR : rm2.frames + 1 ≤ R.frames ∧ 8 + (nL2 + 11) + rm2.locals ≤ R.locals) (hf : k + rm2.cells ≤ R.cells ∧ n + rm2.slots ≤ R.slots) (hst : (st.map fun v => v.category).sum ≤ 8) (hstk : stk = As.reverse ++ .ref b :: st) (isC isR : List Nat) (hC : isC.map (fun i => ws[i]?) = wc.map some) (hnc : va_nd isC = true) (hRr : isR.map (fun i => ws[i]?) = wr.map some) (hn : va_nd isR = true) (hdis : ∀ i ∈ isR, i ∉ isC) (hp : pc + 3 = pc') (kk : ∀ (o : Option Value) (w : va_W), Qs o w → Wk X R nL D A (k + rm2.cells) (n + rm2.slots) Q (wr ++ w) lv (o.toList ++ st) pc') : Wk X R nL D A k n Q ws lv stk pc := by
  subst hp; obtain ⟨hx, hb, hml, hown, hts, hK, hA, hlk, hr, hnm⟩ := C
  obtain ⟨hcode, hini, hnm2⟩ := ho
  intro H locs ls hP hD hS hl
  have hPc : va_P D classes wc H := gP_sub isC hC hP
  have hDc : va_D A wc := hD.sub isC hnc hC
  have hFc := va_free (wc := wc) hD hS hA isC hC
  refine k_after (va_runV (As := As) (rest := st) ⟨hx, hb, hml, hown, hts⟩ (hM H.size) ⟨callB_of As.length hts (TT_good hcode rfl) rfl rfl rfl (hts _ hini) (hts _ hl') hnm2 hR, hts _ hv.1, hts _ hv.2⟩ ⟨gBlind D tys H.size wc _, va_recv hK.1 hP hc he, fun U hU hW => ⟨rfl, by rw [hU], by rw [hU]; exact hPc, hK.warm hW, hDc.weaken (fun _ _ _ _ => trivial)⟩⟩ rfl rfl hl.1 hstk (lv_room hst) hd hf) hS hFc (fun o w H1 locs1 hq hP1 hD1 hk1 hS1 => ?_)
  obtain ⟨hP2, hD2⟩ := va_join (wr := wr) (w1 := w) hP hD isC isR hC hRr hn hdis hk1 hFc hP1 hD1
  exact kk o w hq H1 locs1 ls hP2 hD2 hS1 hl
theorem k_callVN (C : CX X R y cc nL ret D tys A) (hd : decode cc pc = .ok (.invokevirtual index, 3)) (hM : GM (xl X) D tys y2 cc2 nL2 ret2 rm2 (.ref b :: As) wc Qs) (ho : CO y2 cc2 nL2 ret2 As.length) (hv : COV y2) (hl' : Cond.methodLinkNest y.cls index y2 host ∈ NW) (q0 : Nat) (he : ws[q0]? = some (b, .inr (ci, fs))) (hc : classes[ci]? = some (y2.cls, T, N)) (hR : rm2.frames + 1 ≤ R.frames ∧ 8 + (nL2 + 11) + rm2.locals ≤ R.locals) (hf : k + rm2.cells ≤ R.cells ∧ n + rm2.slots ≤ R.slots) (hst : (st.map fun v => v.category).sum ≤ 8) (hstk : stk = As.reverse ++ .ref b :: st) (isC isR : List Nat) (hC : isC.map (fun i => ws[i]?) = wc.map some) (hnc : va_nd isC = true) (hRr : isR.map (fun i => ws[i]?) = wr.map some) (hn : va_nd isR = true) (hdis : ∀ i ∈ isR, i ∉ isC) (hp : pc + 3 = pc') (kk : ∀ (o : Option Value) (w : va_W), Qs o w → Wk X R nL D A (k + rm2.cells) (n + rm2.slots) Q (wr ++ w) lv (o.toList ++ st) pc') : Wk X R nL D A k n Q ws lv stk pc := by
  subst hp; obtain ⟨hx, hb, hml, hown, hts, hK, hA, hlk, hr, hnm⟩ := C
  obtain ⟨hcode, hini, hnm2⟩ := ho
  intro H locs ls hP hD hS hl
  have hPc : va_P D classes wc H := gP_sub isC hC hP
  have hDc : va_D A wc := hD.sub isC hnc hC
  have hFc := va_free (wc := wc) hD hS hA isC hC
  refine k_after (va_runVN (As := As) (rest := st) ⟨hx, hb, hml, hown, hts⟩ (hM H.size) ⟨va_cnB As.length hts (TT_good hcode rfl) rfl rfl rfl (hK.2.1 _ hl') (hts _ hini) hnm2 hR, hts _ hv.1, hts _ hv.2⟩ ⟨gBlind D tys H.size wc _, va_recv hK.1 hP hc he, fun U hU hW => ⟨rfl, by rw [hU], by rw [hU]; exact hPc, hK.warm hW, hDc.weaken (fun _ _ _ _ => trivial)⟩⟩ rfl rfl hl.1 hstk (lv_room hst) hd hf) hS hFc (fun o w H1 locs1 hq hP1 hD1 hk1 hS1 => ?_)
  obtain ⟨hP2, hD2⟩ := va_join (wr := wr) (w1 := w) hP hD isC isR hC hRr hn hdis hk1 hFc hP1 hD1
  exact kk o w hq H1 locs1 ls hP2 hD2 hS1 hl
theorem k_callS (C : CX X R y cc nL ret D tys A) (hd : decode cc pc = .ok (.invokestatic index, 3)) (hM : GM (xl X) D tys y2 cc2 nL2 ret2 rm2 As wc Qs) (ho : CO y2 cc2 nL2 ret2 As.length) (hs : Cond.static y2 ∈ TT) (hl' : Cond.methodLink y.cls index y2 ∈ TT) (hR : rm2.frames + 1 ≤ R.frames ∧ 8 + (nL2 + 11) + rm2.locals ≤ R.locals) (hf : k + rm2.cells ≤ R.cells ∧ n + rm2.slots ≤ R.slots) (hst : (st.map fun v => v.category).sum ≤ 8) (hstk : stk = As.reverse ++ st) (isC isR : List Nat) (hC : isC.map (fun i => ws[i]?) = wc.map some) (hnc : va_nd isC = true) (hRr : isR.map (fun i => ws[i]?) = wr.map some) (hn : va_nd isR = true) (hdis : ∀ i ∈ isR, i ∉ isC) (hp : pc + 3 = pc') (kk : ∀ (o : Option Value) (w : va_W), Qs o w → Wk X R nL D A (k + rm2.cells) (n + rm2.slots) Q (wr ++ w) lv (o.toList ++ st) pc') : Wk X R nL D A k n Q ws lv stk pc := by
  subst hp; obtain ⟨hx, hb, hml, hown, hts, hK, hA, hlk, hr, hnm⟩ := C
  obtain ⟨hcode, hini, hnm2⟩ := ho
  intro H locs ls hP hD hS hl
  have hPc : va_P D classes wc H := gP_sub isC hC hP
  have hDc : va_D A wc := hD.sub isC hnc hC
  have hFc := va_free (wc := wc) hD hS hA isC hC
  refine k_after (va_runS (As := As) (rest := st) ⟨hx, hb, hml, hown, hts⟩ (hM H.size) ⟨callB_of As.length hts (TT_good hcode rfl) rfl rfl rfl (hts _ hini) (hts _ hl') hnm2 hR, hts _ hs⟩ ⟨gBlind D tys H.size wc _, fun U hU hW => ⟨rfl, by rw [hU], by rw [hU]; exact hPc, hK.warm hW, hDc.weaken (fun _ _ _ _ => trivial)⟩⟩ rfl rfl hl.1 hstk (lv_room hst) hd hf) hS hFc (fun o w H1 locs1 hq hP1 hD1 hk1 hS1 => ?_)
  obtain ⟨hP2, hD2⟩ := va_join (wr := wr) (w1 := w) hP hD isC isR hC hRr hn hdis hk1 hFc hP1 hD1
  exact kk o w hq H1 locs1 ls hP2 hD2 hS1 hl
theorem k_callSN (C : CX X R y cc nL ret D tys A) (hd : decode cc pc = .ok (.invokestatic index, 3)) (hM : GM (xl X) D tys y2 cc2 nL2 ret2 rm2 As wc Qs) (ho : CO y2 cc2 nL2 ret2 As.length) (hs : Cond.static y2 ∈ TT) (hl' : Cond.methodLinkNest y.cls index y2 host ∈ NW) (hR : rm2.frames + 1 ≤ R.frames ∧ 8 + (nL2 + 11) + rm2.locals ≤ R.locals) (hf : k + rm2.cells ≤ R.cells ∧ n + rm2.slots ≤ R.slots) (hst : (st.map fun v => v.category).sum ≤ 8) (hstk : stk = As.reverse ++ st) (isC isR : List Nat) (hC : isC.map (fun i => ws[i]?) = wc.map some) (hnc : va_nd isC = true) (hRr : isR.map (fun i => ws[i]?) = wr.map some) (hn : va_nd isR = true) (hdis : ∀ i ∈ isR, i ∉ isC) (hp : pc + 3 = pc') (kk : ∀ (o : Option Value) (w : va_W), Qs o w → Wk X R nL D A (k + rm2.cells) (n + rm2.slots) Q (wr ++ w) lv (o.toList ++ st) pc') : Wk X R nL D A k n Q ws lv stk pc := by
  subst hp; obtain ⟨hx, hb, hml, hown, hts, hK, hA, hlk, hr, hnm⟩ := C
  obtain ⟨hcode, hini, hnm2⟩ := ho
  intro H locs ls hP hD hS hl
  have hPc : va_P D classes wc H := gP_sub isC hC hP
  have hDc : va_D A wc := hD.sub isC hnc hC
  have hFc := va_free (wc := wc) hD hS hA isC hC
  refine k_after (va_runSN (As := As) (rest := st) ⟨hx, hb, hml, hown, hts⟩ (hM H.size) ⟨va_cnB As.length hts (TT_good hcode rfl) rfl rfl rfl (hK.2.1 _ hl') (hts _ hini) hnm2 hR, hts _ hs, trivial⟩ ⟨gBlind D tys H.size wc _, fun U hU hW => ⟨rfl, by rw [hU], by rw [hU]; exact hPc, hK.warm hW, hDc.weaken (fun _ _ _ _ => trivial)⟩⟩ rfl rfl hl.1 hstk (lv_room hst) hd hf) hS hFc (fun o w H1 locs1 hq hP1 hD1 hk1 hS1 => ?_)
  obtain ⟨hP2, hD2⟩ := va_join (wr := wr) (w1 := w) hP hD isC isR hC hRr hn hdis hk1 hFc hP1 hD1
  exact kk o w hq H1 locs1 ls hP2 hD2 hS1 hl
theorem k_aload_nV (C : CX X R y cc nL ret D tys A) {f : Fin 4} {i : Nat} (hd : decode cc pc = .ok (.aload_n f, 1)) (hi : (f : Nat) = i) (hv : v = .null ∨ ∃ b, v = .ref b) (j : Nat) (hj : lv[j]? = some (i, v)) (hp : pc + 1 = pc') (kk : Wk X R nL D A k n Q ws lv (v :: st) pc') : Wk X R nL D A k n Q ws lv st pc := by
  rcases hv with rfl | ⟨b, rfl⟩
  · exact k_aload_nN C hd hi j hj hp kk
  · exact k_aload_n C hd hi j hj hp kk
theorem k_aloadV (C : CX X R y cc nL ret D tys A) {i : Nat} (hd : decode cc pc = .ok (.aload i, 2)) (hv : v = .null ∨ ∃ b, v = .ref b) (j : Nat) (hj : lv[j]? = some (i, v)) (hp : pc + 2 = pc') (kk : Wk X R nL D A k n Q ws lv (v :: st) pc') : Wk X R nL D A k n Q ws lv st pc := by
  rcases hv with rfl | ⟨b, rfl⟩
  · exact k_aloadN C hd j hj hp kk
  · exact k_aload C hd j hj hp kk
theorem k_astore_nV (C : CX X R y cc nL ret D tys A) {f : Fin 4} {i : Nat} {lv' : List (Nat × Value)} (hd : decode cc pc = .ok (.astore_n f, 1)) (hi : (f : Nat) = i) (hv : v = .null ∨ ∃ b, v = .ref b) (hn : i < nL) (hl' : (i, v) :: lv.filter (fun q => !(q.1 == i) && !(q.1 + 1 == i && q.2.category == 2)) = lv') (hp : pc + 1 = pc') (kk : Wk X R nL D A k n Q ws lv' st pc') : Wk X R nL D A k n Q ws lv (v :: st) pc := by
  rcases hv with rfl | ⟨b, rfl⟩
  · exact k_astore_nN C hd hi hn hl' hp kk
  · exact k_astore_n C hd hi hn hl' hp kk
theorem k_astoreV (C : CX X R y cc nL ret D tys A) {i : Nat} {lv' : List (Nat × Value)} (hd : decode cc pc = .ok (.astore i, 2)) (hv : v = .null ∨ ∃ b, v = .ref b) (hn : i < nL) (hl' : (i, v) :: lv.filter (fun q => !(q.1 == i) && !(q.1 + 1 == i && q.2.category == 2)) = lv') (hp : pc + 2 = pc') (kk : Wk X R nL D A k n Q ws lv' st pc') : Wk X R nL D A k n Q ws lv (v :: st) pc := by
  rcases hv with rfl | ⟨b, rfl⟩
  · exact k_astoreN C hd hn hl' hp kk
  · exact k_astore C hd hn hl' hp kk
theorem k_callI (C : CX X R y cc nL ret D tys A) (hd : decode cc pc = .ok (.invokespecial index, 3)) (hM : GM (xl X) D tys y2 cc2 nL2 none rm2 (.ref b :: As) wc Qs) (ho : CO y2 cc2 nL2 none As.length) (hi : Cond.instanceMethod y2 ∈ TT) (hl' : Cond.methodLink y.cls index y2 ∈ TT) (hy1 : y2.name = "<init>") (hR : rm2.frames + 1 ≤ R.frames ∧ 8 + (nL2 + 11) + rm2.locals ≤ R.locals) (hf : k + rm2.cells ≤ R.cells ∧ n + rm2.slots ≤ R.slots) (hst : (st.map fun v => v.category).sum ≤ 8) (hstk : stk = As.reverse ++ .ref b :: st) (isC isR : List Nat) (hC : isC.map (fun i => ws[i]?) = wc.map some) (hnc : va_nd isC = true) (hRr : isR.map (fun i => ws[i]?) = wr.map some) (hn : va_nd isR = true) (hdis : ∀ i ∈ isR, i ∉ isC) (hp : pc + 3 = pc') (kk : ∀ (o : Option Value) (w : va_W), Qs o w → Wk X R nL D A (k + rm2.cells) (n + rm2.slots) Q (wr ++ w) lv (o.toList ++ st) pc') : Wk X R nL D A k n Q ws lv stk pc := by
  subst hp; obtain ⟨hx, hb, hml, hown, hts, hK, hA, hlk, hr, hnm⟩ := C
  obtain ⟨hcode, hini, hnm2⟩ := ho
  intro H locs ls hP hD hS hl
  have hPc : va_P D classes wc H := gP_sub isC hC hP
  have hDc : va_D A wc := hD.sub isC hnc hC
  have hFc := va_free (wc := wc) hD hS hA isC hC
  refine k_after (va_runI (As := As) (rest := st) ⟨hx, hb, hml, hown, hts⟩ (hM H.size) ⟨callB_of As.length hts (TT_good hcode rfl) rfl rfl rfl (hts _ hini) (hts _ hl') hnm2 hR, hy1, hts _ hi⟩ ⟨gBlind D tys H.size wc _, fun U hU hW => ⟨rfl, by rw [hU], by rw [hU]; exact hPc, hK.warm hW, hDc.weaken (fun _ _ _ _ => trivial)⟩⟩ rfl rfl hl.1 hstk (lv_room hst) hd hf) hS hFc (fun o w H1 locs1 hq hP1 hD1 hk1 hS1 => ?_)
  obtain ⟨hP2, hD2⟩ := va_join (wr := wr) (w1 := w) hP hD isC isR hC hRr hn hdis hk1 hFc hP1 hD1
  exact kk o w hq H1 locs1 ls hP2 hD2 hS1 hl
theorem k_callIN (C : CX X R y cc nL ret D tys A) (hd : decode cc pc = .ok (.invokespecial index, 3)) (hM : GM (xl X) D tys y2 cc2 nL2 none rm2 (.ref b :: As) wc Qs) (ho : CO y2 cc2 nL2 none As.length) (hi : Cond.instanceMethod y2 ∈ TT) (hl' : Cond.methodLinkNest y.cls index y2 host ∈ NW) (hy1 : y2.name = "<init>") (hR : rm2.frames + 1 ≤ R.frames ∧ 8 + (nL2 + 11) + rm2.locals ≤ R.locals) (hf : k + rm2.cells ≤ R.cells ∧ n + rm2.slots ≤ R.slots) (hst : (st.map fun v => v.category).sum ≤ 8) (hstk : stk = As.reverse ++ .ref b :: st) (isC isR : List Nat) (hC : isC.map (fun i => ws[i]?) = wc.map some) (hnc : va_nd isC = true) (hRr : isR.map (fun i => ws[i]?) = wr.map some) (hn : va_nd isR = true) (hdis : ∀ i ∈ isR, i ∉ isC) (hp : pc + 3 = pc') (kk : ∀ (o : Option Value) (w : va_W), Qs o w → Wk X R nL D A (k + rm2.cells) (n + rm2.slots) Q (wr ++ w) lv (o.toList ++ st) pc') : Wk X R nL D A k n Q ws lv stk pc := by
  subst hp; obtain ⟨hx, hb, hml, hown, hts, hK, hA, hlk, hr, hnm⟩ := C
  obtain ⟨hcode, hini, hnm2⟩ := ho
  intro H locs ls hP hD hS hl
  have hPc : va_P D classes wc H := gP_sub isC hC hP
  have hDc : va_D A wc := hD.sub isC hnc hC
  have hFc := va_free (wc := wc) hD hS hA isC hC
  refine k_after (va_runIN (As := As) (rest := st) ⟨hx, hb, hml, hown, hts⟩ (hM H.size) ⟨va_cnB As.length hts (TT_good hcode rfl) rfl rfl rfl (hK.2.1 _ hl') (hts _ hini) hnm2 hR, hy1, hts _ hi⟩ ⟨gBlind D tys H.size wc _, fun U hU hW => ⟨rfl, by rw [hU], by rw [hU]; exact hPc, hK.warm hW, hDc.weaken (fun _ _ _ _ => trivial)⟩⟩ rfl rfl hl.1 hstk (lv_room hst) hd hf) hS hFc (fun o w H1 locs1 hq hP1 hD1 hk1 hS1 => ?_)
  obtain ⟨hP2, hD2⟩ := va_join (wr := wr) (w1 := w) hP hD isC isR hC hRr hn hdis hk1 hFc hP1 hD1
  exact kk o w hq H1 locs1 ls hP2 hD2 hS1 hl
theorem k_st {st' : List Value} (h : st = st') (kk : Wk X R nL D A k n Q ws lv st' pc) : Wk X R nL D A k n Q ws lv st pc := h ▸ kk
theorem k_lookup (C : CX X R y cc nL ret D tys A) {dflt : Int} {ps : Array (Int × Int)} {ln : Nat} {x : Int32} {off : Int} {tgt : Nat} (hd : decode cc pc = .ok (.lookupswitch dflt ps, ln)) (hs : (ps.toList.zip (ps.toList.drop 1)).all (fun (a, next) => a.1 < next.1) = true) (ho : Op.lookupswitch.offset ps.toList dflt x.toInt = off) (ht : (pc : Int) + off = (tgt : Int)) (kk : Wk X R nL D A k n Q ws lv st tgt) : Wk X R nL D A k n Q ws lv (.int x :: st) pc :=
  fun H locs ls hP hD hS hl => lv_lookup C.1 C.2.1 hd hs ho ht (kk H locs ls hP hD hS hl)
variable {o0 : Option Value} {w0 wn : va_W} {st' : List Value}
theorem k_callVd (C : CX X R y cc nL ret D tys A) (hd : decode cc pc = .ok (.invokevirtual index, 3)) (hM : GM (xl X) D tys y2 cc2 nL2 ret2 rm2 (.ref b :: As) wc (fun o w => o = o0 ∧ w = w0)) (ho : CO y2 cc2 nL2 ret2 As.length) (hv : COV y2) (hl' : Cond.methodLink y.cls index y2 ∈ TT) (q0 : Nat) (he : ws[q0]? = some (b, .inr (ci, fs))) (hc : classes[ci]? = some (y2.cls, T, N)) (hR : rm2.frames + 1 ≤ R.frames ∧ 8 + (nL2 + 11) + rm2.locals ≤ R.locals) (hf : k + rm2.cells ≤ R.cells ∧ n + rm2.slots ≤ R.slots) (hst : (st.map fun v => v.category).sum ≤ 8) (hstk : stk = As.reverse ++ .ref b :: st) (isC isR is : List Nat) (hC : isC.map (fun i => ws[i]?) = wc.map some) (hnc : va_nd isC = true) (hRr : isR.map (fun i => ws[i]?) = (isR.filterMap (fun i => ws[i]?)).map some) (hn : va_nd isR = true) (hdis : ∀ i ∈ isR, i ∉ isC) (hs : is.map (fun i => (isR.filterMap (fun i => ws[i]?) ++ w0)[i]?) = wn.map some) (hns : va_nd is = true) (hst' : o0.toList ++ st = st') (hp : pc + 3 = pc') (kk : Wk X R nL D A (k + rm2.cells) (n + rm2.slots) Q wn lv st' pc') : Wk X R nL D A k n Q ws lv stk pc :=
  k_callV C hd hM ho hv hl' q0 he hc hR hf hst hstk isC isR hC hnc hRr hn hdis hp (fun o w hq => by obtain ⟨rfl, rfl⟩ := hq; subst hst'; exact k_sub is hns hs kk)
theorem k_callVNd (C : CX X R y cc nL ret D tys A) (hd : decode cc pc = .ok (.invokevirtual index, 3)) (hM : GM (xl X) D tys y2 cc2 nL2 ret2 rm2 (.ref b :: As) wc (fun o w => o = o0 ∧ w = w0)) (ho : CO y2 cc2 nL2 ret2 As.length) (hv : COV y2) (hl' : Cond.methodLinkNest y.cls index y2 host ∈ NW) (q0 : Nat) (he : ws[q0]? = some (b, .inr (ci, fs))) (hc : classes[ci]? = some (y2.cls, T, N)) (hR : rm2.frames + 1 ≤ R.frames ∧ 8 + (nL2 + 11) + rm2.locals ≤ R.locals) (hf : k + rm2.cells ≤ R.cells ∧ n + rm2.slots ≤ R.slots) (hst : (st.map fun v => v.category).sum ≤ 8) (hstk : stk = As.reverse ++ .ref b :: st) (isC isR is : List Nat) (hC : isC.map (fun i => ws[i]?) = wc.map some) (hnc : va_nd isC = true) (hRr : isR.map (fun i => ws[i]?) = (isR.filterMap (fun i => ws[i]?)).map some) (hn : va_nd isR = true) (hdis : ∀ i ∈ isR, i ∉ isC) (hs : is.map (fun i => (isR.filterMap (fun i => ws[i]?) ++ w0)[i]?) = wn.map some) (hns : va_nd is = true) (hst' : o0.toList ++ st = st') (hp : pc + 3 = pc') (kk : Wk X R nL D A (k + rm2.cells) (n + rm2.slots) Q wn lv st' pc') : Wk X R nL D A k n Q ws lv stk pc :=
  k_callVN C hd hM ho hv hl' q0 he hc hR hf hst hstk isC isR hC hnc hRr hn hdis hp (fun o w hq => by obtain ⟨rfl, rfl⟩ := hq; subst hst'; exact k_sub is hns hs kk)
theorem k_callSd (C : CX X R y cc nL ret D tys A) (hd : decode cc pc = .ok (.invokestatic index, 3)) (hM : GM (xl X) D tys y2 cc2 nL2 ret2 rm2 As wc (fun o w => o = o0 ∧ w = w0)) (ho : CO y2 cc2 nL2 ret2 As.length) (hs' : Cond.static y2 ∈ TT) (hl' : Cond.methodLink y.cls index y2 ∈ TT) (hR : rm2.frames + 1 ≤ R.frames ∧ 8 + (nL2 + 11) + rm2.locals ≤ R.locals) (hf : k + rm2.cells ≤ R.cells ∧ n + rm2.slots ≤ R.slots) (hst : (st.map fun v => v.category).sum ≤ 8) (hstk : stk = As.reverse ++ st) (isC isR is : List Nat) (hC : isC.map (fun i => ws[i]?) = wc.map some) (hnc : va_nd isC = true) (hRr : isR.map (fun i => ws[i]?) = (isR.filterMap (fun i => ws[i]?)).map some) (hn : va_nd isR = true) (hdis : ∀ i ∈ isR, i ∉ isC) (hs : is.map (fun i => (isR.filterMap (fun i => ws[i]?) ++ w0)[i]?) = wn.map some) (hns : va_nd is = true) (hst' : o0.toList ++ st = st') (hp : pc + 3 = pc') (kk : Wk X R nL D A (k + rm2.cells) (n + rm2.slots) Q wn lv st' pc') : Wk X R nL D A k n Q ws lv stk pc :=
  k_callS C hd hM ho hs' hl' hR hf hst hstk isC isR hC hnc hRr hn hdis hp (fun o w hq => by obtain ⟨rfl, rfl⟩ := hq; subst hst'; exact k_sub is hns hs kk)
theorem k_callSNd (C : CX X R y cc nL ret D tys A) (hd : decode cc pc = .ok (.invokestatic index, 3)) (hM : GM (xl X) D tys y2 cc2 nL2 ret2 rm2 As wc (fun o w => o = o0 ∧ w = w0)) (ho : CO y2 cc2 nL2 ret2 As.length) (hs' : Cond.static y2 ∈ TT) (hl' : Cond.methodLinkNest y.cls index y2 host ∈ NW) (hR : rm2.frames + 1 ≤ R.frames ∧ 8 + (nL2 + 11) + rm2.locals ≤ R.locals) (hf : k + rm2.cells ≤ R.cells ∧ n + rm2.slots ≤ R.slots) (hst : (st.map fun v => v.category).sum ≤ 8) (hstk : stk = As.reverse ++ st) (isC isR is : List Nat) (hC : isC.map (fun i => ws[i]?) = wc.map some) (hnc : va_nd isC = true) (hRr : isR.map (fun i => ws[i]?) = (isR.filterMap (fun i => ws[i]?)).map some) (hn : va_nd isR = true) (hdis : ∀ i ∈ isR, i ∉ isC) (hs : is.map (fun i => (isR.filterMap (fun i => ws[i]?) ++ w0)[i]?) = wn.map some) (hns : va_nd is = true) (hst' : o0.toList ++ st = st') (hp : pc + 3 = pc') (kk : Wk X R nL D A (k + rm2.cells) (n + rm2.slots) Q wn lv st' pc') : Wk X R nL D A k n Q ws lv stk pc :=
  k_callSN C hd hM ho hs' hl' hR hf hst hstk isC isR hC hnc hRr hn hdis hp (fun o w hq => by obtain ⟨rfl, rfl⟩ := hq; subst hst'; exact k_sub is hns hs kk)
theorem k_perm {ws' : va_W} (h : ws'.Perm ws) (kk : Wk X R nL D A k n Q ws' lv st pc) : Wk X R nL D A k n Q ws lv st pc := fun H locs ls hP hD hS hl => kk H locs ls (P_perm h.symm hP) (D_perm h.symm hD) hS hl
variable {pre suf suf' w1 : va_W}
theorem gP_app {H : Heap} (hP : va_P D classes (pre ++ suf) H) : va_P D classes pre H := fun k q hk => hP k q (by rw [List.getElem?_append_left (List.getElem?_eq_some_iff.mp hk).1]; exact hk)
theorem gD_app (hD : va_D A (pre ++ suf)) : va_D A pre := ⟨fun i j p q hi hj e => hD.1 i j p q (by rw [List.getElem?_append_left (List.getElem?_eq_some_iff.mp hi).1]; exact hi) (by rw [List.getElem?_append_left (List.getElem?_eq_some_iff.mp hj).1]; exact hj) e, fun k q hk => hD.2 k q (by rw [List.getElem?_append_left (List.getElem?_eq_some_iff.mp hk).1]; exact hk)⟩
theorem k_subS (is : List Nat) (hns : va_nd is = true) (hs : is.map (fun i => w1[i]?) = wn.map some) (kk : Wk X R nL D A k n Q (wn ++ suf) lv st pc) : Wk X R nL D A k n Q (w1 ++ suf) lv st pc := fun H locs ls hP hD hS hl => kk H locs ls (hP.part is hs) (hD.part is hns hs) hS hl
theorem k_callVQd (C : CX X R y cc nL ret D tys A) (hd : decode cc pc = .ok (.invokevirtual index, 3)) (hM : GM (xl X) D tys y2 cc2 nL2 ret2 rm2 (.ref b :: As) wc (fun o w => o = o0 ∧ w = w1)) (ho : CO y2 cc2 nL2 ret2 As.length) (hv : COV y2) (hl' : Cond.methodLink y.cls index y2 ∈ TT) (q0 : Nat) (he : (pre ++ suf)[q0]? = some (b, .inr (ci, fs))) (hc : classes[ci]? = some (y2.cls, T, N)) (hR : rm2.frames + 1 ≤ R.frames ∧ 8 + (nL2 + 11) + rm2.locals ≤ R.locals) (hf : k + rm2.cells ≤ R.cells ∧ n + rm2.slots ≤ R.slots) (hst : (st.map fun v => v.category).sum ≤ 8) (hstk : stk = As.reverse ++ .ref b :: st) (isC isR is : List Nat) (hC : isC.map (fun i => pre[i]?) = wc.map some) (hnc : va_nd isC = true) (hRr : isR.map (fun i => pre[i]?) = (isR.filterMap (fun i => pre[i]?)).map some) (hn : va_nd isR = true) (hdis : ∀ i ∈ isR, i ∉ isC) (hs : is.map (fun i => (isR.filterMap (fun i => pre[i]?) ++ w1)[i]?) = wn.map some) (hns : va_nd is = true) (hst' : o0.toList ++ st = st') (hp : pc + 3 = pc') (kk : Wk X R nL D A (k + rm2.cells) (n + rm2.slots) Q (wn ++ suf) lv st' pc') : Wk X R nL D A k n Q (pre ++ suf) lv stk pc := by
  subst hp; obtain ⟨hx, hb, hml, hown, hts, hK, hA, hlk, hr, hnm⟩ := C
  obtain ⟨hcode, hini, hnm2⟩ := ho
  intro H locs ls hP hD hS hl
  have hPc : va_P D classes wc H := gP_sub isC hC (gP_app hP)
  have hDc : va_D A wc := (gD_app hD).sub isC hnc hC
  have hFc := va_free (wc := wc) (gD_app hD) hS hA isC hC
  refine k_after (va_runV (As := As) (rest := st) ⟨hx, hb, hml, hown, hts⟩ (hM H.size) ⟨callB_of As.length hts (TT_good hcode rfl) rfl rfl rfl (hts _ hini) (hts _ hl') hnm2 hR, hts _ hv.1, hts _ hv.2⟩ ⟨gBlind D tys H.size wc _, va_recv hK.1 hP hc he, fun U hU hW => ⟨rfl, by rw [hU], by rw [hU]; exact hPc, hK.warm hW, hDc.weaken (fun _ _ _ _ => trivial)⟩⟩ rfl rfl hl.1 hstk (lv_room hst) hd hf) hS hFc (fun o w H1 locs1 hq hP1 hD1 hk1 hS1 => ?_)
  obtain ⟨rfl, rfl⟩ := hq
  subst hst'
  obtain ⟨hP2, hD2⟩ := va_joinQ (wr := isR.filterMap (fun i => pre[i]?)) hP hD isC isR hC hRr hn hdis hk1 hFc hP1 hD1
  exact k_subS is hns hs kk H1 locs1 ls hP2 hD2 hS1 hl
theorem k_callVPd (C : CX X R y cc nL ret D tys A) (hd : decode cc pc = .ok (.invokevirtual index, 3)) (hM : GM (xl X) D tys y2 cc2 nL2 ret2 rm2 (.ref b :: As) (wc ++ suf) (fun o w => o = o0 ∧ w = w1 ++ suf')) (ho : CO y2 cc2 nL2 ret2 As.length) (hv : COV y2) (hl' : Cond.methodLink y.cls index y2 ∈ TT) (q0 : Nat) (he : (pre ++ suf)[q0]? = some (b, .inr (ci, fs))) (hc : classes[ci]? = some (y2.cls, T, N)) (hR : rm2.frames + 1 ≤ R.frames ∧ 8 + (nL2 + 11) + rm2.locals ≤ R.locals) (hf : k + rm2.cells ≤ R.cells ∧ n + rm2.slots ≤ R.slots) (hst : (st.map fun v => v.category).sum ≤ 8) (hstk : stk = As.reverse ++ .ref b :: st) (isC isR is : List Nat) (hC : isC.map (fun i => pre[i]?) = wc.map some) (hnc : va_nd isC = true) (hRr : isR.map (fun i => pre[i]?) = (isR.filterMap (fun i => pre[i]?)).map some) (hn : va_nd isR = true) (hdis : ∀ i ∈ isR, i ∉ isC) (hs : is.map (fun i => (isR.filterMap (fun i => pre[i]?) ++ w1)[i]?) = wn.map some) (hns : va_nd is = true) (hst' : o0.toList ++ st = st') (hp : pc + 3 = pc') (kk : Wk X R nL D A (k + rm2.cells) (n + rm2.slots) Q (wn ++ suf') lv st' pc') : Wk X R nL D A k n Q (pre ++ suf) lv stk pc := by
  subst hp; obtain ⟨hx, hb, hml, hown, hts, hK, hA, hlk, hr, hnm⟩ := C
  obtain ⟨hcode, hini, hnm2⟩ := ho
  intro H locs ls hP hD hS hl
  have hPc : va_P D classes (wc ++ suf) H := hP.part isC hC
  have hDc : va_D A (wc ++ suf) := hD.part isC hnc hC
  have hFc := va_freeP (cx := wc) hD hS hA isC hC
  refine k_after (va_runV (As := As) (rest := st) ⟨hx, hb, hml, hown, hts⟩ (hM H.size) ⟨callB_of As.length hts (TT_good hcode rfl) rfl rfl rfl (hts _ hini) (hts _ hl') hnm2 hR, hts _ hv.1, hts _ hv.2⟩ ⟨gBlind D tys H.size (wc ++ suf) _, va_recv hK.1 hP hc he, fun U hU hW => ⟨rfl, by rw [hU], by rw [hU]; exact hPc, hK.warm hW, hDc.weaken (fun _ _ _ _ => trivial)⟩⟩ rfl rfl hl.1 hstk (lv_room hst) hd hf) hS hFc (fun o w H1 locs1 hq hP1 hD1 hk1 hS1 => ?_)
  obtain ⟨rfl, rfl⟩ := hq
  subst hst'
  obtain ⟨hP2, hD2⟩ := va_joinP (wr := isR.filterMap (fun i => pre[i]?)) hP hD isC isR hC hRr hn hdis hk1 hFc hP1 hD1
  exact k_subS is hns hs kk H1 locs1 ls hP2 hD2 hS1 hl
end GB
