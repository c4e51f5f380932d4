/-! THE FRAME of whole contracts, and what the law's walk needs beside -/
section FR
variable {l : Launch} {D : va_G} {tys : GT} {y : MethodName} {cc : ByteArray} {nL : Nat} {ret : Option FieldType} {rm : Room} {av : List Value} {wc w1 pre suf suf' wn : va_W} {o0 : Option Value}
theorem vaA_sub {ws wc : va_W} {sz : Nat} (h : ∀ q ∈ wc, q ∈ ws) : ∀ q, va_A wc sz q → va_A ws sz q := by
  intro q hq
  rcases hq with ⟨k, e, hk⟩ | hq
  · obtain ⟨i, hi⟩ := List.getElem?_of_mem (h _ (List.mem_of_getElem? hk))
    exact Or.inl ⟨i, e, hi⟩
  · exact Or.inr hq
theorem mem_of_is {ws wc : va_W} {is : List Nat} (hs : is.map (fun i => ws[i]?) = wc.map some) : ∀ q ∈ wc, q ∈ ws := by
  intro q hq
  obtain ⟨k, hk⟩ := List.getElem?_of_mem hq
  obtain ⟨i, -, hi⟩ := va_in_of is hs hk
  exact List.mem_of_getElem? hi
theorem GM.extQ (hM : GM l D tys y cc nL ret rm av wc (fun o w => o = o0 ∧ w = w1)) (isC isR is : List Nat) (hC : isC.map (fun i => pre[i]?) = wc.map some) (hnc : va_nd isC = true) (hRr : isR.map (fun i => pre[i]?) = (isR.filterMap (fun i => pre[i]?)).map some) (hn : va_nd isR = true) (hdis : ∀ i ∈ isR, i ∉ isC) (hs : is.map (fun i => (isR.filterMap (fun i => pre[i]?) ++ w1)[i]?) = wn.map some) (hns : va_nd is = true) : GM l D tys y cc nL ret rm av (pre ++ suf) (fun o w => o = o0 ∧ w = wn ++ suf) := by
  intro sz p e ha hc hk s m args below hf happ hP _
  obtain ⟨rfl, hsz, hPw, hK, hD⟩ := hP
  subst hsz
  have hPc : va_P D classes wc s.heap := gP_sub isC hC (gP_app hPw)
  have hDc : va_D (fun _ => True) wc := (gD_app hD).sub isC hnc hC
  have hsub : ∀ q, va_A wc s.heap.size q → va_A (pre ++ suf) s.heap.size q := vaA_sub (fun q hq => List.mem_append_left _ (mem_of_is hC q hq))
  obtain ⟨n, o, h1, h2, h3, ⟨⟨⟨o', w, ho, ⟨rfl, rfl⟩, hP1, hD1⟩, hz, hk1⟩, L, hFE, hL⟩⟩ := hM s.heap.size p e ha hc hk s m _ below hf happ ⟨rfl, rfl, hPc, hK, hDc⟩ trivial
  obtain ⟨hP2, hD2⟩ := va_joinQ (wr := isR.filterMap (fun i => pre[i]?)) hPw (hD.self (sz := s.heap.size)) isC isR hC hRr hn hdis hk1 hsub hP1 hD1
  exact ⟨n, o, h1, h2, h3, ⟨⟨⟨o', wn ++ suf, ho, ⟨rfl, rfl⟩, hP2.part is hs, hD2.part is hns hs⟩, hz, fun q q1 q2 => hk1 q q1 (fun z => q2 (hsub q z))⟩, L, hFE, fun q hq => hsub _ (hL q hq)⟩⟩
theorem GM.extP (hM : GM l D tys y cc nL ret rm av (wc ++ suf) (fun o w => o = o0 ∧ w = w1 ++ suf')) (isC isR is : List Nat) (hC : isC.map (fun i => pre[i]?) = wc.map some) (hnc : va_nd isC = true) (hRr : isR.map (fun i => pre[i]?) = (isR.filterMap (fun i => pre[i]?)).map some) (hn : va_nd isR = true) (hdis : ∀ i ∈ isR, i ∉ isC) (hs : is.map (fun i => (isR.filterMap (fun i => pre[i]?) ++ w1)[i]?) = wn.map some) (hns : va_nd is = true) : GM l D tys y cc nL ret rm av (pre ++ suf) (fun o w => o = o0 ∧ w = wn ++ suf') := by
  intro sz p e ha hc hk s m args below hf happ hP _
  obtain ⟨rfl, hsz, hPw, hK, hD⟩ := hP
  subst hsz
  have hPc : va_P D classes (wc ++ suf) s.heap := hPw.part isC hC
  have hDc : va_D (fun _ => True) (wc ++ suf) := hD.part isC hnc hC
  have hsub : ∀ q, va_A (wc ++ suf) s.heap.size q → va_A (pre ++ suf) s.heap.size q := vaA_sub (fun q hq => by
    rcases List.mem_append.mp hq with h | h
    · exact List.mem_append_left _ (mem_of_is hC q h)
    · exact List.mem_append_right _ h)
  obtain ⟨n, o, h1, h2, h3, ⟨⟨⟨o', w, ho, ⟨rfl, rfl⟩, hP1, hD1⟩, hz, hk1⟩, L, hFE, hL⟩⟩ := hM s.heap.size p e ha hc hk s m _ below hf happ ⟨rfl, rfl, hPc, hK, hDc⟩ trivial
  obtain ⟨hP2, hD2⟩ := va_joinP (wr := isR.filterMap (fun i => pre[i]?)) hPw (hD.self (sz := s.heap.size)) isC isR hC hRr hn hdis hk1 hsub hP1 hD1
  exact ⟨n, o, h1, h2, h3, ⟨⟨⟨o', wn ++ suf', ho, ⟨rfl, rfl⟩, hP2.part is hs, hD2.part is hns hs⟩, hz, fun q q1 q2 => hk1 q q1 (fun z => q2 (hsub q z))⟩, L, hFE, fun q hq => hsub _ (hL q hq)⟩⟩
end FR
theorem range_map (w : va_W) : (List.range w.length).map (fun i => w[i]?) = w.map some := by
  apply List.ext_getElem?
  intro i
  rw [List.getElem?_map, List.getElem?_map]
  by_cases h : i < w.length
  · rw [List.getElem?_range h, List.getElem?_eq_getElem h]
    simp [h]
  · rw [List.getElem?_eq_none (by rw [List.length_range]; omega), List.getElem?_eq_none (by omega)]
    rfl
theorem nd_range' : ∀ (n s : Nat), va_nd (List.range' s n) = true
  | 0, _ => rfl
  | n + 1, s => by
    rw [List.range'_succ]
    simp only [va_nd, Bool.and_eq_true, decide_eq_true_eq]
    refine ⟨fun h => ?_, nd_range' n (s + 1)⟩
    have := List.mem_range'_1.mp h
    omega
theorem nd_range (n : Nat) : va_nd (List.range n) = true := by
  rw [List.range_eq_range']
  exact nd_range' n 0
section FRA
variable {X : GX} {R : Room} {y : MethodName} {cc : ByteArray} {nL : Nat} {ret : Option FieldType} {D : va_G} {tys : GT} {A : Nat → Prop} {k n : Nat} {Q : State → Prop} {ws wc w1 suf : va_W} {lv : List (Nat × Value)} {st st' stk : List Value} {pc pc' index ci N : Nat} {T : u_T} {fs : List Value}
variable {y2 : MethodName} {cc2 : ByteArray} {nL2 : Nat} {ret2 : Option FieldType} {rm2 : Room} {b : Nat} {As : List Value} {o0 : Option Value}
/-- a call whose world is all that stands first -/
theorem k_callA (C : CX X R y cc nL ret D tys A) (hd : decode cc pc = .ok (.invokevirtual index, 3)) (hM : GM (xl X) D tys y2 cc2 nL2 ret2 rm2 (.ref b :: As) wc (fun o w => o = o0 ∧ w = w1)) (ho : CO y2 cc2 nL2 ret2 As.length) (hv : COV y2) (hl' : Cond.methodLink y.cls index y2 ∈ TT) (q0 : Nat) (he : wc[q0]? = some (b, .inr (ci, fs))) (hc : classes[ci]? = some (y2.cls, T, N)) (hR : rm2.frames + 1 ≤ R.frames ∧ 8 + (nL2 + 11) + rm2.locals ≤ R.locals) (hf : k + rm2.cells ≤ R.cells ∧ n + rm2.slots ≤ R.slots) (hst : (st.map fun v => v.category).sum ≤ 8) (hstk : stk = As.reverse ++ .ref b :: st) (hst' : o0.toList ++ st = st') (hp : pc + 3 = pc') (kk : Wk X R nL D A (k + rm2.cells) (n + rm2.slots) Q (w1 ++ suf) lv st' pc') : Wk X R nL D A k n Q (wc ++ suf) lv stk pc := by
  subst hp
  obtain ⟨hx, hb, hml, hown, hts, hK, hA, hlk, hr, hnm⟩ := C
  obtain ⟨hcode, hini, hnm2⟩ := ho
  intro H locs ls hP hD hS hl
  have hC := range_map wc
  have hPc : va_P D classes wc H := gP_app hP
  have hDc : va_D A wc := gD_app hD
  have hFc := va_free (wc := wc) (gD_app hD) hS hA _ hC
  have he' : (wc ++ suf)[q0]? = some (b, .inr (ci, fs)) := by rw [List.getElem?_append_left (List.getElem?_eq_some_iff.mp he).1]; exact he
  refine k_after (va_runV (As := As) (rest := st) ⟨hx, hb, hml, hown, hts⟩ (hM H.size) ⟨callB_of As.length hts (TT_good hcode rfl) rfl rfl rfl (hts _ hini) (hts _ hl') hnm2 hR, hts _ hv.1, hts _ hv.2⟩ ⟨gBlind D tys H.size wc _, va_recv hK.1 hP hc he', fun U hU hW => ⟨rfl, by rw [hU], by rw [hU]; exact hPc, hK.warm hW, hDc.weaken (fun _ _ _ _ => trivial)⟩⟩ rfl rfl hl.1 hstk (lv_room hst) hd hf) hS hFc (fun o w H1 locs1 hq hP1 hD1 hk1 hS1 => ?_)
  obtain ⟨rfl, rfl⟩ := hq
  subst hst'
  obtain ⟨hP2, hD2⟩ := va_joinQ (wr := []) hP hD _ [] hC rfl rfl (fun _ h => by cases h) hk1 hFc hP1 hD1
  exact kk H1 locs1 ls hP2 hD2 hS1 hl
theorem k_sld (C : CX X R y cc nL ret D tys A) {L : Nat} {xs' : Nat → Int32} (hX : va_X b L xs' (xs X) (xs X).heap) (hbl : b < (xs X).heap.size) (hbA : ¬ A b) {i : Int32} (hd : decode cc pc = .ok (.iaload, 1)) (hi : vp_in i L) (hp : pc + 1 = pc') (kk : Wk X R nL D A k n Q ws lv (.int (xs' i.toNatClampNeg) :: st) pc') : Wk X R nL D A k n Q ws lv (.int i :: .ref b :: st) pc := by
  subst hp; exact fun H locs ls hP hD hS hl => va_sld C.1 C.2.1 hX hbl hbA hS hi hd (kk H locs ls hP hD hS hl)
theorem k_slen (C : CX X R y cc nL ret D tys A) {L : Nat} {xs' : Nat → Int32} (hX : va_X b L xs' (xs X) (xs X).heap) (hbl : b < (xs X).heap.size) (hbA : ¬ A b) (hd : decode cc pc = .ok (.arraylength, 1)) (hp : pc + 1 = pc') (kk : Wk X R nL D A k n Q ws lv (.int (Int32.ofNat L) :: st) pc') : Wk X R nL D A k n Q ws lv (.ref b :: st) pc := by
  subst hp; exact fun H locs ls hP hD hS hl => va_slen C.1 C.2.1 hX hbl hbA hS hd (kk H locs ls hP hD hS hl)
theorem k_tabOut (C : CX X R y cc nL ret D tys A) {dflt lo hi : Int} {offs : Array Int} {ln : Nat} {x : Int32} {tgt : Nat} (hd : decode cc pc = .ok (.tableswitch dflt lo hi offs, ln)) (h : x.toInt < lo ∨ hi < x.toInt) (ht : (pc : Int) + dflt = (tgt : Int)) (kk : Wk X R nL D A k n Q ws lv st tgt) : Wk X R nL D A k n Q ws lv (.int x :: st) pc :=
  fun H locs ls hP hD hS hl => lv_tableOut C.1 C.2.1 hd h ht (kk H locs ls hP hD hS hl)
theorem k_tabIn (C : CX X R y cc nL ret D tys A) {dflt lo hi : Int} {offs : Array Int} {ln : Nat} {x : Int32} {off : Int} {tgt : Nat} (hd : decode cc pc = .ok (.tableswitch dflt lo hi offs, ln)) (h1 : ¬ x.toInt < lo) (h2 : ¬ hi < x.toInt) (ho : offs[(x.toInt - lo).toNat]? = some off) (ht : (pc : Int) + off = (tgt : Int)) (kk : Wk X R nL D A k n Q ws lv st tgt) : Wk X R nL D A k n Q ws lv (.int x :: st) pc :=
  fun H locs ls hP hD hS hl => lv_tableIn C.1 C.2.1 hd h1 h2 ho ht (kk H locs ls hP hD hS hl)
end FRA
theorem GM.ext0 {l : Launch} {D : va_G} {tys : GT} {y : MethodName} {cc : ByteArray} {nL : Nat} {ret : Option FieldType} {rm : Room} {av : List Value} {wc w1 pre wn : va_W} {o0 : Option Value} (hM : GM l D tys y cc nL ret rm av wc (fun o w => o = o0 ∧ w = w1)) (isC isR is : List Nat) (hC : isC.map (fun i => pre[i]?) = wc.map some) (hnc : va_nd isC = true) (hRr : isR.map (fun i => pre[i]?) = (isR.filterMap (fun i => pre[i]?)).map some) (hn : va_nd isR = true) (hdis : ∀ i ∈ isR, i ∉ isC) (hs : is.map (fun i => (isR.filterMap (fun i => pre[i]?) ++ w1)[i]?) = wn.map some) (hns : va_nd is = true) : GM l D tys y cc nL ret rm av pre (fun o w => o = o0 ∧ w = wn) := by
  have h := GM.extQ (suf := []) hM isC isR is hC hnc hRr hn hdis hs hns
  rw [List.append_nil, List.append_nil] at h
  exact h
