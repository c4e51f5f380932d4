theorem d_Arrays_fillI_0 : decode b_Arrays_fillI 0 = .ok (.iconst 0, 1) := by decide +kernel
theorem d_Arrays_fillI_1 : decode b_Arrays_fillI 1 = .ok (.istore_n 2, 1) := by decide +kernel
theorem d_Arrays_fillI_2 : decode b_Arrays_fillI 2 = .ok (.aload_n 0, 1) := by decide +kernel
theorem d_Arrays_fillI_3 : decode b_Arrays_fillI 3 = .ok (.arraylength, 1) := by decide +kernel
theorem d_Arrays_fillI_4 : decode b_Arrays_fillI 4 = .ok (.istore_n 3, 1) := by decide +kernel
theorem d_Arrays_fillI_5 : decode b_Arrays_fillI 5 = .ok (.iload_n 2, 1) := by decide +kernel
theorem d_Arrays_fillI_6 : decode b_Arrays_fillI 6 = .ok (.iload_n 3, 1) := by decide +kernel
theorem d_Arrays_fillI_7 : decode b_Arrays_fillI 7 = .ok (.if_icmp .ge 13, 3) := by decide +kernel
theorem d_Arrays_fillI_10 : decode b_Arrays_fillI 10 = .ok (.aload_n 0, 1) := by decide +kernel
theorem d_Arrays_fillI_11 : decode b_Arrays_fillI 11 = .ok (.iload_n 2, 1) := by decide +kernel
theorem d_Arrays_fillI_12 : decode b_Arrays_fillI 12 = .ok (.iload_n 1, 1) := by decide +kernel
theorem d_Arrays_fillI_13 : decode b_Arrays_fillI 13 = .ok (.iastore, 1) := by decide +kernel
theorem d_Arrays_fillI_14 : decode b_Arrays_fillI 14 = .ok (.iinc 2 1, 3) := by decide +kernel
theorem d_Arrays_fillI_17 : decode b_Arrays_fillI 17 = .ok (.goto (-12), 3) := by decide +kernel
theorem d_Arrays_fillI_20 : decode b_Arrays_fillI 20 = .ok (.return_, 1) := by decide +kernel
abbrev w_Arrays_fillI {cI cJ cC cZ cR : ClassId} (a_fa : Nat) (fl : Nat) (v_fa : Nat → Int32) : va_W := [(a_fa, .inl (cI, fl, .inl v_fa))]
def f_Arrays_fillI_L5 (fl : Nat) (p1 : Int32) (kk5_0 : Int32 → (Nat → Int32) → Option ((Nat → Int32))) : Nat → Int32 → (Nat → Int32) → Option ((Nat → Int32))
  | 0, _, _ => none
  | n_5 + 1, l2_5, v_fa_5 => (if (Int32.ofNat fl) ≤ l2_5 then (kk5_0 l2_5 v_fa_5) else (if inB l2_5 fl = true then (f_Arrays_fillI_L5 fl p1 kk5_0 n_5 (l2_5 + 1) (upd v_fa_5 l2_5.toNatClampNeg p1)) else none))
theorem f_Arrays_fillI_L5_s (fl : Nat) (p1 : Int32) (kk5_0 : Int32 → (Nat → Int32) → Option ((Nat → Int32))) (n_5 : Nat) (l2_5 : Int32) (v_fa_5 : Nat → Int32) : f_Arrays_fillI_L5 fl p1 kk5_0 (n_5 + 1) l2_5 v_fa_5 = (if (Int32.ofNat fl) ≤ l2_5 then (kk5_0 l2_5 v_fa_5) else (if inB l2_5 fl = true then (f_Arrays_fillI_L5 fl p1 kk5_0 n_5 (l2_5 + 1) (upd v_fa_5 l2_5.toNatClampNeg p1)) else none)) := rfl
def f_Arrays_fillI (fu : Nat) (fl : Nat) (p1 : Int32) (v_fa : Nat → Int32) : Option ((Nat → Int32)) := (f_Arrays_fillI_L5 fl p1 (fun l2_5 v_fa_5 => some v_fa_5) fu (0 : Int32) v_fa)
set_option maxRecDepth 100000 in
set_option maxHeartbeats 4000000 in
theorem c_Arrays_fillI {l : Launch} {D : va_G} {cI cJ cC cZ cR : ClassId} (fu : Nat) (a_fa : Nat)  (fl : Nat) (v_fa : Nat → Int32) (p1 : Int32) (o_v_fa : Nat → Int32) (h : f_Arrays_fillI fu fl p1 v_fa = some o_v_fa) : GM l D (tysL cI cJ cC cZ cR) y_Arrays_fillI b_Arrays_fillI 4 none { frames := 0, cells := 0, slots := 0, locals := 0 } [.ref a_fa, .int p1] (w_Arrays_fillI (cI := cI) (cJ := cJ) (cC := cC) (cZ := cZ) (cR := cR) a_fa fl v_fa) (fun (o : Option Value) (w : va_W) => o = none ∧ w = w_Arrays_fillI (cI := cI) (cJ := cJ) (cC := cC) (cZ := cZ) (cR := cR) a_fa fl o_v_fa) := by
  refine GM.of (by decide) (Nat.le_of_ble_eq_true rfl) (lv := [(0, .ref a_fa), (1, .int p1)]) rfl ?_
  intro X hX C
  subst hX
  refine k_iconst C d_Arrays_fillI_0 (v := (0 : Int32)) (by decide) rfl ?_
  refine k_istore_n (lv' := [(2, .int (0 : Int32)), (0, .ref a_fa), (1, .int p1)]) C d_Arrays_fillI_1 rfl (by decide) rfl rfl ?_
  refine k_aload_n C d_Arrays_fillI_2 rfl 1 rfl rfl ?_
  refine k_alen (z := (Int32.ofNat fl)) C d_Arrays_fillI_3 0 0 rfl rfl rfl rfl ?_
  refine k_istore_n (lv' := [(3, .int (Int32.ofNat fl)), (2, .int (0 : Int32)), (0, .ref a_fa), (1, .int p1)]) C d_Arrays_fillI_4 rfl (by decide) rfl rfl ?_
  have X5_0 : ∀ (l2_5 : Int32) (v_fa_5 : Nat → Int32), some v_fa_5 = some o_v_fa → Wk X { frames := 0, cells := 0, slots := 0, locals := 0 } 4 D (va_A (w_Arrays_fillI (cI := cI) (cJ := cJ) (cC := cC) (cZ := cZ) (cR := cR) a_fa fl v_fa) (xs X).heap.size) 0 0 (GE X D (w_Arrays_fillI (cI := cI) (cJ := cJ) (cC := cC) (cZ := cZ) (cR := cR) a_fa fl v_fa) (fun (o : Option Value) (w : va_W) => o = none ∧ w = w_Arrays_fillI (cI := cI) (cJ := cJ) (cC := cC) (cZ := cZ) (cR := cR) a_fa fl o_v_fa) 0 0) (w_Arrays_fillI (cI := cI) (cJ := cJ) (cC := cC) (cZ := cZ) (cR := cR) a_fa fl v_fa_5) [(3, .int (Int32.ofNat fl)), (2, .int l2_5), (0, .ref a_fa), (1, .int p1)] [] 20 := by
    intro l2_5 v_fa_5 h
    exact k_vret C d_Arrays_fillI_20 (tr1 h (fun t => (fun (o : Option Value) (w : va_W) => o = none ∧ w = w_Arrays_fillI (cI := cI) (cJ := cJ) (cC := cC) (cZ := cZ) (cR := cR) a_fa fl (t)) none (w_Arrays_fillI (cI := cI) (cJ := cJ) (cC := cC) (cZ := cZ) (cR := cR) a_fa fl v_fa_5)) ⟨rfl, rfl⟩)
  have L5 : ∀ (kk5_0 : Int32 → (Nat → Int32) → Option ((Nat → Int32))) (hX5_0 : ∀ (l2_5 : Int32) (v_fa_5 : Nat → Int32), kk5_0 l2_5 v_fa_5 = some o_v_fa → Wk X { frames := 0, cells := 0, slots := 0, locals := 0 } 4 D (va_A (w_Arrays_fillI (cI := cI) (cJ := cJ) (cC := cC) (cZ := cZ) (cR := cR) a_fa fl v_fa) (xs X).heap.size) 0 0 (GE X D (w_Arrays_fillI (cI := cI) (cJ := cJ) (cC := cC) (cZ := cZ) (cR := cR) a_fa fl v_fa) (fun (o : Option Value) (w : va_W) => o = none ∧ w = w_Arrays_fillI (cI := cI) (cJ := cJ) (cC := cC) (cZ := cZ) (cR := cR) a_fa fl o_v_fa) 0 0) (w_Arrays_fillI (cI := cI) (cJ := cJ) (cC := cC) (cZ := cZ) (cR := cR) a_fa fl v_fa_5) [(3, .int (Int32.ofNat fl)), (2, .int l2_5), (0, .ref a_fa), (1, .int p1)] [] 20) (n_5 : Nat) (l2_5 : Int32) (v_fa_5 : Nat → Int32), f_Arrays_fillI_L5 fl p1 kk5_0 n_5 l2_5 v_fa_5 = some o_v_fa → Wk X { frames := 0, cells := 0, slots := 0, locals := 0 } 4 D (va_A (w_Arrays_fillI (cI := cI) (cJ := cJ) (cC := cC) (cZ := cZ) (cR := cR) a_fa fl v_fa) (xs X).heap.size) 0 0 (GE X D (w_Arrays_fillI (cI := cI) (cJ := cJ) (cC := cC) (cZ := cZ) (cR := cR) a_fa fl v_fa) (fun (o : Option Value) (w : va_W) => o = none ∧ w = w_Arrays_fillI (cI := cI) (cJ := cJ) (cC := cC) (cZ := cZ) (cR := cR) a_fa fl o_v_fa) 0 0) (w_Arrays_fillI (cI := cI) (cJ := cJ) (cC := cC) (cZ := cZ) (cR := cR) a_fa fl v_fa_5) [(3, .int (Int32.ofNat fl)), (2, .int l2_5), (0, .ref a_fa), (1, .int p1)] [] 5 := by
    intro kk5_0 hX5_0 n_5
    induction n_5 with
    | zero =>
      intro l2_5 v_fa_5 h
      exact nS h
    | succ n_5 ih5 =>
      intro l2_5 v_fa_5 h
      replace h := (f_Arrays_fillI_L5_s _ _ _ _ _ _).symm.trans h
      refine k_iload_n C d_Arrays_fillI_5 rfl 1 rfl rfl ?_
      refine k_iload_n C d_Arrays_fillI_6 rfl 0 rfl rfl ?_
      refine k_icmp_ge (tgt := 20) C d_Arrays_fillI_7 (by decide) rfl (fun c1 => ?_) (fun c1 => ?_)
      · replace h := gi_t h c1
        exact hX5_0 l2_5 v_fa_5 h
      · replace h := gi_f h c1
        refine k_aload_n C d_Arrays_fillI_10 rfl 2 rfl rfl ?_
        refine k_iload_n C d_Arrays_fillI_11 rfl 1 rfl rfl ?_
        refine k_iload_n C d_Arrays_fillI_12 rfl 3 rfl rfl ?_
        have g2 := gd1 h
        replace h := gd2 h
        refine k_iast (ws' := w_Arrays_fillI (cI := cI) (cJ := cJ) (cC := cC) (cZ := cZ) (cR := cR) a_fa fl (upd v_fa_5 l2_5.toNatClampNeg p1)) C d_Arrays_fillI_13 0 0 rfl rfl (inB_in g2) rfl rfl ?_
        refine k_iinc (lv' := [(2, .int (l2_5 + 1)), (3, .int (Int32.ofNat fl)), (0, .ref a_fa), (1, .int p1)]) C d_Arrays_fillI_14 1 rfl rfl (by decide) rfl rfl ?_
        refine k_goto (tgt := 5) C d_Arrays_fillI_17 (by decide) ?_
        refine k_lpk [1, 0, 2, 3] rfl ?_
        exact ih5 (l2_5 + 1) (upd v_fa_5 l2_5.toNatClampNeg p1) h
  exact L5 (fun l2_5 v_fa_5 => some v_fa_5) X5_0 fu (0 : Int32) v_fa h
theorem d_Arrays_fillJ_0 : decode b_Arrays_fillJ 0 = .ok (.iconst 0, 1) := by decide +kernel
theorem d_Arrays_fillJ_1 : decode b_Arrays_fillJ 1 = .ok (.istore_n 3, 1) := by decide +kernel
theorem d_Arrays_fillJ_2 : decode b_Arrays_fillJ 2 = .ok (.aload_n 0, 1) := by decide +kernel
theorem d_Arrays_fillJ_3 : decode b_Arrays_fillJ 3 = .ok (.arraylength, 1) := by decide +kernel
theorem d_Arrays_fillJ_4 : decode b_Arrays_fillJ 4 = .ok (.istore 4, 2) := by decide +kernel
theorem d_Arrays_fillJ_6 : decode b_Arrays_fillJ 6 = .ok (.iload_n 3, 1) := by decide +kernel
theorem d_Arrays_fillJ_7 : decode b_Arrays_fillJ 7 = .ok (.iload 4, 2) := by decide +kernel
theorem d_Arrays_fillJ_9 : decode b_Arrays_fillJ 9 = .ok (.if_icmp .ge 13, 3) := by decide +kernel
theorem d_Arrays_fillJ_12 : decode b_Arrays_fillJ 12 = .ok (.aload_n 0, 1) := by decide +kernel
theorem d_Arrays_fillJ_13 : decode b_Arrays_fillJ 13 = .ok (.iload_n 3, 1) := by decide +kernel
theorem d_Arrays_fillJ_14 : decode b_Arrays_fillJ 14 = .ok (.lload_n 1, 1) := by decide +kernel
theorem d_Arrays_fillJ_15 : decode b_Arrays_fillJ 15 = .ok (.lastore, 1) := by decide +kernel
theorem d_Arrays_fillJ_16 : decode b_Arrays_fillJ 16 = .ok (.iinc 3 1, 3) := by decide +kernel
theorem d_Arrays_fillJ_19 : decode b_Arrays_fillJ 19 = .ok (.goto (-13), 3) := by decide +kernel
theorem d_Arrays_fillJ_22 : decode b_Arrays_fillJ 22 = .ok (.return_, 1) := by decide +kernel
abbrev w_Arrays_fillJ {cI cJ cC cZ cR : ClassId} (a_fa : Nat) (fl : Nat) (v_fa : Nat → Int64) : va_W := [(a_fa, .inl (cJ, fl, .inr (.inl v_fa)))]
def f_Arrays_fillJ_L6 (fl : Nat) (p1 : Int64) (kk6_0 : Int32 → (Nat → Int64) → Option ((Nat → Int64))) : Nat → Int32 → (Nat → Int64) → Option ((Nat → Int64))
  | 0, _, _ => none
  | n_6 + 1, l3_6, v_fa_6 => (if (Int32.ofNat fl) ≤ l3_6 then (kk6_0 l3_6 v_fa_6) else (if inB l3_6 fl = true then (f_Arrays_fillJ_L6 fl p1 kk6_0 n_6 (l3_6 + 1) (vp_updL v_fa_6 l3_6.toNatClampNeg p1)) else none))
theorem f_Arrays_fillJ_L6_s (fl : Nat) (p1 : Int64) (kk6_0 : Int32 → (Nat → Int64) → Option ((Nat → Int64))) (n_6 : Nat) (l3_6 : Int32) (v_fa_6 : Nat → Int64) : f_Arrays_fillJ_L6 fl p1 kk6_0 (n_6 + 1) l3_6 v_fa_6 = (if (Int32.ofNat fl) ≤ l3_6 then (kk6_0 l3_6 v_fa_6) else (if inB l3_6 fl = true then (f_Arrays_fillJ_L6 fl p1 kk6_0 n_6 (l3_6 + 1) (vp_updL v_fa_6 l3_6.toNatClampNeg p1)) else none)) := rfl
def f_Arrays_fillJ (fu : Nat) (fl : Nat) (p1 : Int64) (v_fa : Nat → Int64) : Option ((Nat → Int64)) := (f_Arrays_fillJ_L6 fl p1 (fun l3_6 v_fa_6 => some v_fa_6) fu (0 : Int32) v_fa)
set_option maxRecDepth 100000 in
set_option maxHeartbeats 4000000 in
theorem c_Arrays_fillJ {l : Launch} {D : va_G} {cI cJ cC cZ cR : ClassId} (fu : Nat) (a_fa : Nat)  (fl : Nat) (v_fa : Nat → Int64) (p1 : Int64) (o_v_fa : Nat → Int64) (h : f_Arrays_fillJ fu fl p1 v_fa = some o_v_fa) : GM l D (tysL cI cJ cC cZ cR) y_Arrays_fillJ b_Arrays_fillJ 5 none { frames := 0, cells := 0, slots := 0, locals := 0 } [.ref a_fa, .long p1] (w_Arrays_fillJ (cI := cI) (cJ := cJ) (cC := cC) (cZ := cZ) (cR := cR) a_fa fl v_fa) (fun (o : Option Value) (w : va_W) => o = none ∧ w = w_Arrays_fillJ (cI := cI) (cJ := cJ) (cC := cC) (cZ := cZ) (cR := cR) a_fa fl o_v_fa) := by
  refine GM.of (by decide) (Nat.le_of_ble_eq_true rfl) (lv := [(0, .ref a_fa), (1, .long p1)]) rfl ?_
  intro X hX C
  subst hX
  refine k_iconst C d_Arrays_fillJ_0 (v := (0 : Int32)) (by decide) rfl ?_
  refine k_istore_n (lv' := [(3, .int (0 : Int32)), (0, .ref a_fa), (1, .long p1)]) C d_Arrays_fillJ_1 rfl (by decide) rfl rfl ?_
  refine k_aload_n C d_Arrays_fillJ_2 rfl 1 rfl rfl ?_
  refine k_alen (z := (Int32.ofNat fl)) C d_Arrays_fillJ_3 0 1 rfl rfl rfl rfl ?_
  refine k_istore (lv' := [(4, .int (Int32.ofNat fl)), (3, .int (0 : Int32)), (0, .ref a_fa), (1, .long p1)]) C d_Arrays_fillJ_4 (by decide) rfl rfl ?_
  have X6_0 : ∀ (l3_6 : Int32) (v_fa_6 : Nat → Int64), some v_fa_6 = some o_v_fa → Wk X { frames := 0, cells := 0, slots := 0, locals := 0 } 5 D (va_A (w_Arrays_fillJ (cI := cI) (cJ := cJ) (cC := cC) (cZ := cZ) (cR := cR) a_fa fl v_fa) (xs X).heap.size) 0 0 (GE X D (w_Arrays_fillJ (cI := cI) (cJ := cJ) (cC := cC) (cZ := cZ) (cR := cR) a_fa fl v_fa) (fun (o : Option Value) (w : va_W) => o = none ∧ w = w_Arrays_fillJ (cI := cI) (cJ := cJ) (cC := cC) (cZ := cZ) (cR := cR) a_fa fl o_v_fa) 0 0) (w_Arrays_fillJ (cI := cI) (cJ := cJ) (cC := cC) (cZ := cZ) (cR := cR) a_fa fl v_fa_6) [(4, .int (Int32.ofNat fl)), (3, .int l3_6), (0, .ref a_fa), (1, .long p1)] [] 22 := by
    intro l3_6 v_fa_6 h
    exact k_vret C d_Arrays_fillJ_22 (tr1 h (fun t => (fun (o : Option Value) (w : va_W) => o = none ∧ w = w_Arrays_fillJ (cI := cI) (cJ := cJ) (cC := cC) (cZ := cZ) (cR := cR) a_fa fl (t)) none (w_Arrays_fillJ (cI := cI) (cJ := cJ) (cC := cC) (cZ := cZ) (cR := cR) a_fa fl v_fa_6)) ⟨rfl, rfl⟩)
  have L6 : ∀ (kk6_0 : Int32 → (Nat → Int64) → Option ((Nat → Int64))) (hX6_0 : ∀ (l3_6 : Int32) (v_fa_6 : Nat → Int64), kk6_0 l3_6 v_fa_6 = some o_v_fa → Wk X { frames := 0, cells := 0, slots := 0, locals := 0 } 5 D (va_A (w_Arrays_fillJ (cI := cI) (cJ := cJ) (cC := cC) (cZ := cZ) (cR := cR) a_fa fl v_fa) (xs X).heap.size) 0 0 (GE X D (w_Arrays_fillJ (cI := cI) (cJ := cJ) (cC := cC) (cZ := cZ) (cR := cR) a_fa fl v_fa) (fun (o : Option Value) (w : va_W) => o = none ∧ w = w_Arrays_fillJ (cI := cI) (cJ := cJ) (cC := cC) (cZ := cZ) (cR := cR) a_fa fl o_v_fa) 0 0) (w_Arrays_fillJ (cI := cI) (cJ := cJ) (cC := cC) (cZ := cZ) (cR := cR) a_fa fl v_fa_6) [(4, .int (Int32.ofNat fl)), (3, .int l3_6), (0, .ref a_fa), (1, .long p1)] [] 22) (n_6 : Nat) (l3_6 : Int32) (v_fa_6 : Nat → Int64), f_Arrays_fillJ_L6 fl p1 kk6_0 n_6 l3_6 v_fa_6 = some o_v_fa → Wk X { frames := 0, cells := 0, slots := 0, locals := 0 } 5 D (va_A (w_Arrays_fillJ (cI := cI) (cJ := cJ) (cC := cC) (cZ := cZ) (cR := cR) a_fa fl v_fa) (xs X).heap.size) 0 0 (GE X D (w_Arrays_fillJ (cI := cI) (cJ := cJ) (cC := cC) (cZ := cZ) (cR := cR) a_fa fl v_fa) (fun (o : Option Value) (w : va_W) => o = none ∧ w = w_Arrays_fillJ (cI := cI) (cJ := cJ) (cC := cC) (cZ := cZ) (cR := cR) a_fa fl o_v_fa) 0 0) (w_Arrays_fillJ (cI := cI) (cJ := cJ) (cC := cC) (cZ := cZ) (cR := cR) a_fa fl v_fa_6) [(4, .int (Int32.ofNat fl)), (3, .int l3_6), (0, .ref a_fa), (1, .long p1)] [] 6 := by
    intro kk6_0 hX6_0 n_6
    induction n_6 with
    | zero =>
      intro l3_6 v_fa_6 h
      exact nS h
    | succ n_6 ih6 =>
      intro l3_6 v_fa_6 h
      replace h := (f_Arrays_fillJ_L6_s _ _ _ _ _ _).symm.trans h
      refine k_iload_n C d_Arrays_fillJ_6 rfl 1 rfl rfl ?_
      refine k_iload C d_Arrays_fillJ_7 0 rfl rfl ?_
      refine k_icmp_ge (tgt := 22) C d_Arrays_fillJ_9 (by decide) rfl (fun c1 => ?_) (fun c1 => ?_)
      · replace h := gi_t h c1
        exact hX6_0 l3_6 v_fa_6 h
      · replace h := gi_f h c1
        refine k_aload_n C d_Arrays_fillJ_12 rfl 2 rfl rfl ?_
        refine k_iload_n C d_Arrays_fillJ_13 rfl 1 rfl rfl ?_
        refine k_lload_n C d_Arrays_fillJ_14 rfl 3 rfl rfl ?_
        have g2 := gd1 h
        replace h := gd2 h
        refine k_last (ws' := w_Arrays_fillJ (cI := cI) (cJ := cJ) (cC := cC) (cZ := cZ) (cR := cR) a_fa fl (vp_updL v_fa_6 l3_6.toNatClampNeg p1)) C d_Arrays_fillJ_15 0 1 rfl rfl (inB_in g2) rfl rfl ?_
        refine k_iinc (lv' := [(3, .int (l3_6 + 1)), (4, .int (Int32.ofNat fl)), (0, .ref a_fa), (1, .long p1)]) C d_Arrays_fillJ_16 1 rfl rfl (by decide) rfl rfl ?_
        refine k_goto (tgt := 6) C d_Arrays_fillJ_19 (by decide) ?_
        refine k_lpk [1, 0, 2, 3] rfl ?_
        exact ih6 (l3_6 + 1) (vp_updL v_fa_6 l3_6.toNatClampNeg p1) h
  exact L6 (fun l3_6 v_fa_6 => some v_fa_6) X6_0 fu (0 : Int32) v_fa h
