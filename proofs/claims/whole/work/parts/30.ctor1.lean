theorem d_Typed_init_0 : decode b_Typed_init 0 = .ok (.aload_n 0, 1) := by decide +kernel
theorem d_Typed_init_1 : decode b_Typed_init 1 = .ok (.invokespecial 3, 3) := by decide +kernel
theorem d_Typed_init_4 : decode b_Typed_init 4 = .ok (.aload_n 0, 1) := by decide +kernel
theorem d_Typed_init_5 : decode b_Typed_init 5 = .ok (.bipush 40, 2) := by decide +kernel
theorem d_Typed_init_7 : decode b_Typed_init 7 = .ok (.newarray .char, 2) := by decide +kernel
theorem d_Typed_init_9 : decode b_Typed_init 9 = .ok (.putfield 9, 3) := by decide +kernel
theorem d_Typed_init_12 : decode b_Typed_init 12 = .ok (.return_, 1) := by decide +kernel
set_option maxRecDepth 100000 in
set_option maxHeartbeats 4000000 in
theorem c_Typed_init {l : Launch} {D : va_G} {cI cJ cC cZ cR : ClassId} (h0 : Nat) : GM l D (tysL cI cJ cC cZ cR) y_Typed_init b_Typed_init 1 none { frames := 1, cells := 1, slots := 40, locals := 20 } [.ref h0] [(h0, .inr (0, [.null, .int 0]))] (fun (o : Option Value) (w : va_W) => o = none ∧ ∃ q1 : Nat, w = [(h0, .inr (0, [.ref q1, .int 0])), (q1, .inl (cC, 40, .inl (fun _ => 0)))]) := by
  refine GM.of (by decide) (Nat.le_of_ble_eq_true rfl) (lv := [(0, .ref h0)]) rfl ?_
  intro X hX C
  subst hX
  refine k_aload_n C d_Typed_init_0 rfl 0 rfl rfl ?_
  refine k_objInit C d_Typed_init_1 mw195 h_obj (Nat.le_of_ble_eq_true rfl) (Nat.le_of_ble_eq_true rfl) rfl ?_
  refine k_aload_n C d_Typed_init_4 rfl 0 rfl rfl ?_
  refine k_bipush C d_Typed_init_5 (v := (40 : Int32)) (by decide) rfl ?_
  refine k_newa (a0 := (40, .inl (fun _ => 0))) C d_Typed_init_7 mw196 rfl (fun _ _ h => h) 2 rfl (fun _ => rfl) (by decide) (by decide) (by decide) (Nat.le_of_ble_eq_true rfl) (Nat.le_of_ble_eq_true rfl) rfl (fun q1 => ?_)
  refine k_putF (ws' := [(h0, .inr (0, [.ref q1, .int 0])), (q1, .inl (cC, 40, .inl (fun _ => 0)))]) C d_Typed_init_9 hin_Typed hty_Typed hnn_Typed rfl 0 (by decide) mw63 rfl rfl rfl 0 rfl rfl rfl (Nat.le_of_ble_eq_true rfl) rfl rfl ?_
  refine k_wide (k' := 1) (n' := 40) (Nat.le_of_ble_eq_true rfl) (Nat.le_of_ble_eq_true rfl) ?_
  exact k_vret C d_Typed_init_12 ⟨rfl, q1, rfl⟩
theorem d_Glob_init_0 : decode b_Glob_init 0 = .ok (.aload_n 0, 1) := by decide +kernel
theorem d_Glob_init_1 : decode b_Glob_init 1 = .ok (.invokespecial 3, 3) := by decide +kernel
theorem d_Glob_init_4 : decode b_Glob_init 4 = .ok (.aload_n 0, 1) := by decide +kernel
theorem d_Glob_init_5 : decode b_Glob_init 5 = .ok (.bipush 41, 2) := by decide +kernel
theorem d_Glob_init_7 : decode b_Glob_init 7 = .ok (.newarray .long, 2) := by decide +kernel
theorem d_Glob_init_9 : decode b_Glob_init 9 = .ok (.putfield 9, 3) := by decide +kernel
theorem d_Glob_init_12 : decode b_Glob_init 12 = .ok (.aload_n 0, 1) := by decide +kernel
theorem d_Glob_init_13 : decode b_Glob_init 13 = .ok (.bipush 95, 2) := by decide +kernel
theorem d_Glob_init_15 : decode b_Glob_init 15 = .ok (.newarray .long, 2) := by decide +kernel
theorem d_Glob_init_17 : decode b_Glob_init 17 = .ok (.putfield 15, 3) := by decide +kernel
theorem d_Glob_init_20 : decode b_Glob_init 20 = .ok (.aload_n 0, 1) := by decide +kernel
theorem d_Glob_init_21 : decode b_Glob_init 21 = .ok (.iconst 2, 1) := by decide +kernel
theorem d_Glob_init_22 : decode b_Glob_init 22 = .ok (.newarray .long, 2) := by decide +kernel
theorem d_Glob_init_24 : decode b_Glob_init 24 = .ok (.putfield 18, 3) := by decide +kernel
theorem d_Glob_init_27 : decode b_Glob_init 27 = .ok (.aload_n 0, 1) := by decide +kernel
theorem d_Glob_init_28 : decode b_Glob_init 28 = .ok (.iconst 2, 1) := by decide +kernel
theorem d_Glob_init_29 : decode b_Glob_init 29 = .ok (.newarray .long, 2) := by decide +kernel
theorem d_Glob_init_31 : decode b_Glob_init 31 = .ok (.putfield 21, 3) := by decide +kernel
theorem d_Glob_init_34 : decode b_Glob_init 34 = .ok (.aload_n 0, 1) := by decide +kernel
theorem d_Glob_init_35 : decode b_Glob_init 35 = .ok (.iconst 2, 1) := by decide +kernel
theorem d_Glob_init_36 : decode b_Glob_init 36 = .ok (.newarray .int, 2) := by decide +kernel
theorem d_Glob_init_38 : decode b_Glob_init 38 = .ok (.putfield 24, 3) := by decide +kernel
theorem d_Glob_init_41 : decode b_Glob_init 41 = .ok (.return_, 1) := by decide +kernel
set_option maxRecDepth 100000 in
set_option maxHeartbeats 4000000 in
theorem c_Glob_init {l : Launch} {D : va_G} {cI cJ cC cZ cR : ClassId} (h0 : Nat) : GM l D (tysL cI cJ cC cZ cR) y_Glob_init b_Glob_init 1 none { frames := 1, cells := 5, slots := 142, locals := 20 } [.ref h0] [(h0, .inr (2, [.null, .null, .null, .null, .null, .int 0, .int 0, .long 0]))] (fun (o : Option Value) (w : va_W) => o = none ∧ ∃ q1 q2 q3 q4 q5 : Nat, w = [(h0, .inr (2, [.ref q1, .ref q2, .ref q3, .ref q4, .ref q5, .int 0, .int 0, .long 0])), (q1, .inl (cJ, 41, .inr (.inl (fun _ => 0)))), (q2, .inl (cJ, 95, .inr (.inl (fun _ => 0)))), (q3, .inl (cJ, 2, .inr (.inl (fun _ => 0)))), (q4, .inl (cJ, 2, .inr (.inl (fun _ => 0)))), (q5, .inl (cI, 2, .inl (fun _ => 0)))]) := by
  refine GM.of (by decide) (Nat.le_of_ble_eq_true rfl) (lv := [(0, .ref h0)]) rfl ?_
  intro X hX C
  subst hX
  refine k_aload_n C d_Glob_init_0 rfl 0 rfl rfl ?_
  refine k_objInit C d_Glob_init_1 mw197 h_obj (Nat.le_of_ble_eq_true rfl) (Nat.le_of_ble_eq_true rfl) rfl ?_
  refine k_aload_n C d_Glob_init_4 rfl 0 rfl rfl ?_
  refine k_bipush C d_Glob_init_5 (v := (41 : Int32)) (by decide) rfl ?_
  refine k_newa (a0 := (41, .inr (.inl (fun _ => 0)))) C d_Glob_init_7 mw198 rfl (fun _ _ h => h) 1 rfl (fun _ => rfl) (by decide) (by decide) (by decide) (Nat.le_of_ble_eq_true rfl) (Nat.le_of_ble_eq_true rfl) rfl (fun q1 => ?_)
  refine k_putF (ws' := [(h0, .inr (2, [.ref q1, .null, .null, .null, .null, .int 0, .int 0, .long 0])), (q1, .inl (cJ, 41, .inr (.inl (fun _ => 0))))]) C d_Glob_init_9 hin_Glob hty_Glob hnn_Glob rfl 0 (by decide) mw65 rfl rfl rfl 0 rfl rfl rfl (Nat.le_of_ble_eq_true rfl) rfl rfl ?_
  refine k_aload_n C d_Glob_init_12 rfl 0 rfl rfl ?_
  refine k_bipush C d_Glob_init_13 (v := (95 : Int32)) (by decide) rfl ?_
  refine k_newa (a0 := (95, .inr (.inl (fun _ => 0)))) C d_Glob_init_15 mw198 rfl (fun _ _ h => h) 1 rfl (fun _ => rfl) (by decide) (by decide) (by decide) (Nat.le_of_ble_eq_true rfl) (Nat.le_of_ble_eq_true rfl) rfl (fun q2 => ?_)
  refine k_putF (ws' := [(h0, .inr (2, [.ref q1, .ref q2, .null, .null, .null, .int 0, .int 0, .long 0])), (q1, .inl (cJ, 41, .inr (.inl (fun _ => 0)))), (q2, .inl (cJ, 95, .inr (.inl (fun _ => 0))))]) C d_Glob_init_17 hin_Glob hty_Glob hnn_Glob rfl 1 (by decide) mw66 rfl rfl rfl 0 rfl rfl rfl (Nat.le_of_ble_eq_true rfl) rfl rfl ?_
  refine k_aload_n C d_Glob_init_20 rfl 0 rfl rfl ?_
  refine k_iconst C d_Glob_init_21 (v := (2 : Int32)) (by decide) rfl ?_
  refine k_newa (a0 := (2, .inr (.inl (fun _ => 0)))) C d_Glob_init_22 mw198 rfl (fun _ _ h => h) 1 rfl (fun _ => rfl) (by decide) (by decide) (by decide) (Nat.le_of_ble_eq_true rfl) (Nat.le_of_ble_eq_true rfl) rfl (fun q3 => ?_)
  refine k_putF (ws' := [(h0, .inr (2, [.ref q1, .ref q2, .ref q3, .null, .null, .int 0, .int 0, .long 0])), (q1, .inl (cJ, 41, .inr (.inl (fun _ => 0)))), (q2, .inl (cJ, 95, .inr (.inl (fun _ => 0)))), (q3, .inl (cJ, 2, .inr (.inl (fun _ => 0))))]) C d_Glob_init_24 hin_Glob hty_Glob hnn_Glob rfl 2 (by decide) mw72 rfl rfl rfl 0 rfl rfl rfl (Nat.le_of_ble_eq_true rfl) rfl rfl ?_
  refine k_aload_n C d_Glob_init_27 rfl 0 rfl rfl ?_
  refine k_iconst C d_Glob_init_28 (v := (2 : Int32)) (by decide) rfl ?_
  refine k_newa (a0 := (2, .inr (.inl (fun _ => 0)))) C d_Glob_init_29 mw198 rfl (fun _ _ h => h) 1 rfl (fun _ => rfl) (by decide) (by decide) (by decide) (Nat.le_of_ble_eq_true rfl) (Nat.le_of_ble_eq_true rfl) rfl (fun q4 => ?_)
  refine k_putF (ws' := [(h0, .inr (2, [.ref q1, .ref q2, .ref q3, .ref q4, .null, .int 0, .int 0, .long 0])), (q1, .inl (cJ, 41, .inr (.inl (fun _ => 0)))), (q2, .inl (cJ, 95, .inr (.inl (fun _ => 0)))), (q3, .inl (cJ, 2, .inr (.inl (fun _ => 0)))), (q4, .inl (cJ, 2, .inr (.inl (fun _ => 0))))]) C d_Glob_init_31 hin_Glob hty_Glob hnn_Glob rfl 3 (by decide) mw73 rfl rfl rfl 0 rfl rfl rfl (Nat.le_of_ble_eq_true rfl) rfl rfl ?_
  refine k_aload_n C d_Glob_init_34 rfl 0 rfl rfl ?_
  refine k_iconst C d_Glob_init_35 (v := (2 : Int32)) (by decide) rfl ?_
  refine k_newa (a0 := (2, .inl (fun _ => 0))) C d_Glob_init_36 mw199 rfl (fun _ _ h => h) 0 rfl (fun _ => rfl) (by decide) (by decide) (by decide) (Nat.le_of_ble_eq_true rfl) (Nat.le_of_ble_eq_true rfl) rfl (fun q5 => ?_)
  refine k_putF (ws' := [(h0, .inr (2, [.ref q1, .ref q2, .ref q3, .ref q4, .ref q5, .int 0, .int 0, .long 0])), (q1, .inl (cJ, 41, .inr (.inl (fun _ => 0)))), (q2, .inl (cJ, 95, .inr (.inl (fun _ => 0)))), (q3, .inl (cJ, 2, .inr (.inl (fun _ => 0)))), (q4, .inl (cJ, 2, .inr (.inl (fun _ => 0)))), (q5, .inl (cI, 2, .inl (fun _ => 0)))]) C d_Glob_init_38 hin_Glob hty_Glob hnn_Glob rfl 4 (by decide) mw74 rfl rfl rfl 0 rfl rfl rfl (Nat.le_of_ble_eq_true rfl) rfl rfl ?_
  refine k_wide (k' := 5) (n' := 142) (Nat.le_of_ble_eq_true rfl) (Nat.le_of_ble_eq_true rfl) ?_
  exact k_vret C d_Glob_init_41 ⟨rfl, q1, q2, q3, q4, q5, rfl⟩
theorem d_Reader_init_0 : decode b_Reader_init 0 = .ok (.aload_n 0, 1) := by decide +kernel
theorem d_Reader_init_1 : decode b_Reader_init 1 = .ok (.invokespecial 3, 3) := by decide +kernel
theorem d_Reader_init_4 : decode b_Reader_init 4 = .ok (.aload_n 0, 1) := by decide +kernel
theorem d_Reader_init_5 : decode b_Reader_init 5 = .ok (.new 9, 3) := by decide +kernel
theorem d_Reader_init_8 : decode b_Reader_init 8 = .ok (.dup, 1) := by decide +kernel
theorem d_Reader_init_9 : decode b_Reader_init 9 = .ok (.invokespecial 11, 3) := by decide +kernel
theorem d_Reader_init_12 : decode b_Reader_init 12 = .ok (.putfield 12, 3) := by decide +kernel
theorem d_Reader_init_15 : decode b_Reader_init 15 = .ok (.aload_n 0, 1) := by decide +kernel
theorem d_Reader_init_16 : decode b_Reader_init 16 = .ok (.aload_n 1, 1) := by decide +kernel
theorem d_Reader_init_17 : decode b_Reader_init 17 = .ok (.putfield 18, 3) := by decide +kernel
theorem d_Reader_init_20 : decode b_Reader_init 20 = .ok (.return_, 1) := by decide +kernel
set_option maxRecDepth 100000 in
set_option maxHeartbeats 4000000 in
theorem c_Reader_init {l : Launch} {D : va_G} {cI cJ cC cZ cR : ClassId} (h0 : Nat) (h1 : Nat) : GM l D (tysL cI cJ cC cZ cR) y_Reader_init b_Reader_init 2 none { frames := 2, cells := 6, slots := 150, locals := 40 } [.ref h0, .ref h1] [(h0, .inr (1, [.null, .null, .int 0, .int 0]))] (fun (o : Option Value) (w : va_W) => o = none ∧ ∃ q1 q2 q3 q4 q5 q6 : Nat, w = [(h0, .inr (1, [.ref h1, .ref q1, .int 0, .int 0])), (q1, .inr (2, [.ref q2, .ref q3, .ref q4, .ref q5, .ref q6, .int 0, .int 0, .long 0])), (q2, .inl (cJ, 41, .inr (.inl (fun _ => 0)))), (q3, .inl (cJ, 95, .inr (.inl (fun _ => 0)))), (q4, .inl (cJ, 2, .inr (.inl (fun _ => 0)))), (q5, .inl (cJ, 2, .inr (.inl (fun _ => 0)))), (q6, .inl (cI, 2, .inl (fun _ => 0)))]) := by
  refine GM.of (by decide) (Nat.le_of_ble_eq_true rfl) (lv := [(0, .ref h0), (1, .ref h1)]) rfl ?_
  intro X hX C
  subst hX
  refine k_aload_n C d_Reader_init_0 rfl 0 rfl rfl ?_
  refine k_objInit C d_Reader_init_1 mw200 h_obj (Nat.le_of_ble_eq_true rfl) (Nat.le_of_ble_eq_true rfl) rfl ?_
  refine k_aload_n C d_Reader_init_4 rfl 0 rfl rfl ?_
  refine k_new (ci := 2) (fs := [.null, .null, .null, .null, .null, .int 0, .int 0, .long 0]) C d_Reader_init_5 hin_Glob hty_Glob rfl mw203 ⟨mw201, mw202⟩ (fun j hj => dv_Glob j hj) (Nat.le_of_ble_eq_true rfl) (Nat.le_of_ble_eq_true rfl) rfl (fun q1 => ?_)
  refine k_dup C d_Reader_init_8 rfl rfl ?_
  refine k_callIN (As := []) (st := [.ref q1, .ref h0]) (wr := [(h0, .inr (1, [.null, .null, .int 0, .int 0]))]) C d_Reader_init_9 (c_Glob_init q1) co_Glob_init mw205 mw204 rfl (by decide) ⟨(Nat.le_of_ble_eq_true rfl), (Nat.le_of_ble_eq_true rfl)⟩ (Nat.le_of_ble_eq_true rfl) rfl [1] [0] rfl rfl rfl rfl (by decide) rfl (fun o w hq => ?_)
  obtain ⟨rfl, q2, q3, q4, q5, q6, rfl⟩ := hq
  refine k_st (st' := [.ref q1, .ref h0]) rfl ?_
  refine k_putF (ws' := [(h0, .inr (1, [.null, .ref q1, .int 0, .int 0])), (q1, .inr (2, [.ref q2, .ref q3, .ref q4, .ref q5, .ref q6, .int 0, .int 0, .long 0])), (q2, .inl (cJ, 41, .inr (.inl (fun _ => 0)))), (q3, .inl (cJ, 95, .inr (.inl (fun _ => 0)))), (q4, .inl (cJ, 2, .inr (.inl (fun _ => 0)))), (q5, .inl (cJ, 2, .inr (.inl (fun _ => 0)))), (q6, .inl (cI, 2, .inl (fun _ => 0)))]) C d_Reader_init_12 hin_Reader hty_Reader hnn_Reader rfl 1 (by decide) mw82 rfl rfl rfl 0 rfl rfl rfl (Nat.le_of_ble_eq_true rfl) rfl rfl ?_
  refine k_aload_n C d_Reader_init_15 rfl 0 rfl rfl ?_
  refine k_aload_n C d_Reader_init_16 rfl 1 rfl rfl ?_
  refine k_putF (ws' := [(h0, .inr (1, [.ref h1, .ref q1, .int 0, .int 0])), (q1, .inr (2, [.ref q2, .ref q3, .ref q4, .ref q5, .ref q6, .int 0, .int 0, .long 0])), (q2, .inl (cJ, 41, .inr (.inl (fun _ => 0)))), (q3, .inl (cJ, 95, .inr (.inl (fun _ => 0)))), (q4, .inl (cJ, 2, .inr (.inl (fun _ => 0)))), (q5, .inl (cJ, 2, .inr (.inl (fun _ => 0)))), (q6, .inl (cI, 2, .inl (fun _ => 0)))]) C d_Reader_init_17 hin_Reader hty_Reader hnn_Reader rfl 0 (by decide) mw88 rfl rfl rfl 0 rfl rfl rfl (Nat.le_of_ble_eq_true rfl) rfl rfl ?_
  refine k_wide (k' := 6) (n' := 150) (Nat.le_of_ble_eq_true rfl) (Nat.le_of_ble_eq_true rfl) ?_
  exact k_vret C d_Reader_init_20 ⟨rfl, q1, q2, q3, q4, q5, q6, rfl⟩
theorem d_Rule_init_0 : decode b_Rule_init 0 = .ok (.aload_n 0, 1) := by decide +kernel
theorem d_Rule_init_1 : decode b_Rule_init 1 = .ok (.invokespecial 1, 3) := by decide +kernel
theorem d_Rule_init_4 : decode b_Rule_init 4 = .ok (.aload_n 0, 1) := by decide +kernel
theorem d_Rule_init_5 : decode b_Rule_init 5 = .ok (.new 7, 3) := by decide +kernel
theorem d_Rule_init_8 : decode b_Rule_init 8 = .ok (.dup, 1) := by decide +kernel
theorem d_Rule_init_9 : decode b_Rule_init 9 = .ok (.invokespecial 9, 3) := by decide +kernel
theorem d_Rule_init_12 : decode b_Rule_init 12 = .ok (.putfield 10, 3) := by decide +kernel
theorem d_Rule_init_15 : decode b_Rule_init 15 = .ok (.return_, 1) := by decide +kernel
set_option maxRecDepth 100000 in
set_option maxHeartbeats 4000000 in
theorem c_Rule_init {l : Launch} {D : va_G} {cI cJ cC cZ cR : ClassId} (h0 : Nat) : GM l D (tysL cI cJ cC cZ cR) y_Rule_init b_Rule_init 1 none { frames := 2, cells := 6, slots := 150, locals := 40 } [.ref h0] [(h0, .inr (3, [.null, .int 0, .int 0]))] (fun (o : Option Value) (w : va_W) => o = none ∧ ∃ q1 q2 q3 q4 q5 q6 : Nat, w = [(h0, .inr (3, [.ref q1, .int 0, .int 0])), (q1, .inr (2, [.ref q2, .ref q3, .ref q4, .ref q5, .ref q6, .int 0, .int 0, .long 0])), (q2, .inl (cJ, 41, .inr (.inl (fun _ => 0)))), (q3, .inl (cJ, 95, .inr (.inl (fun _ => 0)))), (q4, .inl (cJ, 2, .inr (.inl (fun _ => 0)))), (q5, .inl (cJ, 2, .inr (.inl (fun _ => 0)))), (q6, .inl (cI, 2, .inl (fun _ => 0)))]) := by
  refine GM.of (by decide) (Nat.le_of_ble_eq_true rfl) (lv := [(0, .ref h0)]) rfl ?_
  intro X hX C
  subst hX
  refine k_aload_n C d_Rule_init_0 rfl 0 rfl rfl ?_
  refine k_objInit C d_Rule_init_1 mw206 h_obj (Nat.le_of_ble_eq_true rfl) (Nat.le_of_ble_eq_true rfl) rfl ?_
  refine k_aload_n C d_Rule_init_4 rfl 0 rfl rfl ?_
  refine k_new (ci := 2) (fs := [.null, .null, .null, .null, .null, .int 0, .int 0, .long 0]) C d_Rule_init_5 hin_Glob hty_Glob rfl mw207 ⟨mw201, mw202⟩ (fun j hj => dv_Glob j hj) (Nat.le_of_ble_eq_true rfl) (Nat.le_of_ble_eq_true rfl) rfl (fun q1 => ?_)
  refine k_dup C d_Rule_init_8 rfl rfl ?_
  refine k_callIN (As := []) (st := [.ref q1, .ref h0]) (wr := [(h0, .inr (3, [.null, .int 0, .int 0]))]) C d_Rule_init_9 (c_Glob_init q1) co_Glob_init mw205 mw208 rfl (by decide) ⟨(Nat.le_of_ble_eq_true rfl), (Nat.le_of_ble_eq_true rfl)⟩ (Nat.le_of_ble_eq_true rfl) rfl [1] [0] rfl rfl rfl rfl (by decide) rfl (fun o w hq => ?_)
  obtain ⟨rfl, q2, q3, q4, q5, q6, rfl⟩ := hq
  refine k_st (st' := [.ref q1, .ref h0]) rfl ?_
  refine k_putF (ws' := [(h0, .inr (3, [.ref q1, .int 0, .int 0])), (q1, .inr (2, [.ref q2, .ref q3, .ref q4, .ref q5, .ref q6, .int 0, .int 0, .long 0])), (q2, .inl (cJ, 41, .inr (.inl (fun _ => 0)))), (q3, .inl (cJ, 95, .inr (.inl (fun _ => 0)))), (q4, .inl (cJ, 2, .inr (.inl (fun _ => 0)))), (q5, .inl (cJ, 2, .inr (.inl (fun _ => 0)))), (q6, .inl (cI, 2, .inl (fun _ => 0)))]) C d_Rule_init_12 hin_Rule hty_Rule hnn_Rule rfl 0 (by decide) mw76 rfl rfl rfl 0 rfl rfl rfl (Nat.le_of_ble_eq_true rfl) rfl rfl ?_
  refine k_wide (k' := 6) (n' := 150) (Nat.le_of_ble_eq_true rfl) (Nat.le_of_ble_eq_true rfl) ?_
  exact k_vret C d_Rule_init_15 ⟨rfl, q1, q2, q3, q4, q5, q6, rfl⟩
theorem d_Union_init_0 : decode b_Union_init 0 = .ok (.aload_n 0, 1) := by decide +kernel
theorem d_Union_init_1 : decode b_Union_init 1 = .ok (.invokespecial 3, 3) := by decide +kernel
theorem d_Union_init_4 : decode b_Union_init 4 = .ok (.aload_n 0, 1) := by decide +kernel
theorem d_Union_init_5 : decode b_Union_init 5 = .ok (.bipush 61, 2) := by decide +kernel
theorem d_Union_init_7 : decode b_Union_init 7 = .ok (.newarray .long, 2) := by decide +kernel
theorem d_Union_init_9 : decode b_Union_init 9 = .ok (.putfield 9, 3) := by decide +kernel
theorem d_Union_init_12 : decode b_Union_init 12 = .ok (.aload_n 0, 1) := by decide +kernel
theorem d_Union_init_13 : decode b_Union_init 13 = .ok (.bipush 95, 2) := by decide +kernel
theorem d_Union_init_15 : decode b_Union_init 15 = .ok (.newarray .long, 2) := by decide +kernel
theorem d_Union_init_17 : decode b_Union_init 17 = .ok (.putfield 15, 3) := by decide +kernel
theorem d_Union_init_20 : decode b_Union_init 20 = .ok (.aload_n 0, 1) := by decide +kernel
theorem d_Union_init_21 : decode b_Union_init 21 = .ok (.bipush 95, 2) := by decide +kernel
theorem d_Union_init_23 : decode b_Union_init 23 = .ok (.newarray .int, 2) := by decide +kernel
theorem d_Union_init_25 : decode b_Union_init 25 = .ok (.putfield 18, 3) := by decide +kernel
theorem d_Union_init_28 : decode b_Union_init 28 = .ok (.aload_n 0, 1) := by decide +kernel
theorem d_Union_init_29 : decode b_Union_init 29 = .ok (.bipush 95, 2) := by decide +kernel
theorem d_Union_init_31 : decode b_Union_init 31 = .ok (.newarray .long, 2) := by decide +kernel
theorem d_Union_init_33 : decode b_Union_init 33 = .ok (.putfield 22, 3) := by decide +kernel
theorem d_Union_init_36 : decode b_Union_init 36 = .ok (.aload_n 0, 1) := by decide +kernel
theorem d_Union_init_37 : decode b_Union_init 37 = .ok (.bipush 6, 2) := by decide +kernel
theorem d_Union_init_39 : decode b_Union_init 39 = .ok (.newarray .long, 2) := by decide +kernel
theorem d_Union_init_41 : decode b_Union_init 41 = .ok (.putfield 25, 3) := by decide +kernel
theorem d_Union_init_44 : decode b_Union_init 44 = .ok (.aload_n 0, 1) := by decide +kernel
theorem d_Union_init_45 : decode b_Union_init 45 = .ok (.bipush 6, 2) := by decide +kernel
theorem d_Union_init_47 : decode b_Union_init 47 = .ok (.newarray .int, 2) := by decide +kernel
theorem d_Union_init_49 : decode b_Union_init 49 = .ok (.putfield 28, 3) := by decide +kernel
theorem d_Union_init_52 : decode b_Union_init 52 = .ok (.aload_n 0, 1) := by decide +kernel
theorem d_Union_init_53 : decode b_Union_init 53 = .ok (.bipush 6, 2) := by decide +kernel
theorem d_Union_init_55 : decode b_Union_init 55 = .ok (.newarray .int, 2) := by decide +kernel
theorem d_Union_init_57 : decode b_Union_init 57 = .ok (.putfield 31, 3) := by decide +kernel
theorem d_Union_init_60 : decode b_Union_init 60 = .ok (.return_, 1) := by decide +kernel
set_option maxRecDepth 100000 in
set_option maxHeartbeats 4000000 in
theorem c_Union_init {l : Launch} {D : va_G} {cI cJ cC cZ cR : ClassId} (h0 : Nat) : GM l D (tysL cI cJ cC cZ cR) y_Union_init b_Union_init 1 none { frames := 1, cells := 7, slots := 364, locals := 20 } [.ref h0] [(h0, .inr (4, [.null, .null, .null, .null, .null, .null, .null, .int 0, .int 0, .int 0]))] (fun (o : Option Value) (w : va_W) => o = none ∧ ∃ q1 q2 q3 q4 q5 q6 q7 : Nat, w = [(h0, .inr (4, [.ref q1, .ref q2, .ref q3, .ref q4, .ref q5, .ref q6, .ref q7, .int 0, .int 0, .int 0])), (q1, .inl (cJ, 61, .inr (.inl (fun _ => 0)))), (q2, .inl (cJ, 95, .inr (.inl (fun _ => 0)))), (q3, .inl (cI, 95, .inl (fun _ => 0))), (q4, .inl (cJ, 95, .inr (.inl (fun _ => 0)))), (q5, .inl (cJ, 6, .inr (.inl (fun _ => 0)))), (q6, .inl (cI, 6, .inl (fun _ => 0))), (q7, .inl (cI, 6, .inl (fun _ => 0)))]) := by
  refine GM.of (by decide) (Nat.le_of_ble_eq_true rfl) (lv := [(0, .ref h0)]) rfl ?_
  intro X hX C
  subst hX
  refine k_aload_n C d_Union_init_0 rfl 0 rfl rfl ?_
  refine k_objInit C d_Union_init_1 mw209 h_obj (Nat.le_of_ble_eq_true rfl) (Nat.le_of_ble_eq_true rfl) rfl ?_
  refine k_aload_n C d_Union_init_4 rfl 0 rfl rfl ?_
  refine k_bipush C d_Union_init_5 (v := (61 : Int32)) (by decide) rfl ?_
  refine k_newa (a0 := (61, .inr (.inl (fun _ => 0)))) C d_Union_init_7 mw198 rfl (fun _ _ h => h) 1 rfl (fun _ => rfl) (by decide) (by decide) (by decide) (Nat.le_of_ble_eq_true rfl) (Nat.le_of_ble_eq_true rfl) rfl (fun q1 => ?_)
  refine k_putF (ws' := [(h0, .inr (4, [.ref q1, .null, .null, .null, .null, .null, .null, .int 0, .int 0, .int 0])), (q1, .inl (cJ, 61, .inr (.inl (fun _ => 0))))]) C d_Union_init_9 hin_Union hty_Union hnn_Union rfl 0 (by decide) mw104 rfl rfl rfl 0 rfl rfl rfl (Nat.le_of_ble_eq_true rfl) rfl rfl ?_
  refine k_aload_n C d_Union_init_12 rfl 0 rfl rfl ?_
  refine k_bipush C d_Union_init_13 (v := (95 : Int32)) (by decide) rfl ?_
  refine k_newa (a0 := (95, .inr (.inl (fun _ => 0)))) C d_Union_init_15 mw198 rfl (fun _ _ h => h) 1 rfl (fun _ => rfl) (by decide) (by decide) (by decide) (Nat.le_of_ble_eq_true rfl) (Nat.le_of_ble_eq_true rfl) rfl (fun q2 => ?_)
  refine k_putF (ws' := [(h0, .inr (4, [.ref q1, .ref q2, .null, .null, .null, .null, .null, .int 0, .int 0, .int 0])), (q1, .inl (cJ, 61, .inr (.inl (fun _ => 0)))), (q2, .inl (cJ, 95, .inr (.inl (fun _ => 0))))]) C d_Union_init_17 hin_Union hty_Union hnn_Union rfl 1 (by decide) mw105 rfl rfl rfl 0 rfl rfl rfl (Nat.le_of_ble_eq_true rfl) rfl rfl ?_
  refine k_aload_n C d_Union_init_20 rfl 0 rfl rfl ?_
  refine k_bipush C d_Union_init_21 (v := (95 : Int32)) (by decide) rfl ?_
  refine k_newa (a0 := (95, .inl (fun _ => 0))) C d_Union_init_23 mw199 rfl (fun _ _ h => h) 0 rfl (fun _ => rfl) (by decide) (by decide) (by decide) (Nat.le_of_ble_eq_true rfl) (Nat.le_of_ble_eq_true rfl) rfl (fun q3 => ?_)
  refine k_putF (ws' := [(h0, .inr (4, [.ref q1, .ref q2, .ref q3, .null, .null, .null, .null, .int 0, .int 0, .int 0])), (q1, .inl (cJ, 61, .inr (.inl (fun _ => 0)))), (q2, .inl (cJ, 95, .inr (.inl (fun _ => 0)))), (q3, .inl (cI, 95, .inl (fun _ => 0)))]) C d_Union_init_25 hin_Union hty_Union hnn_Union rfl 2 (by decide) mw123 rfl rfl rfl 0 rfl rfl rfl (Nat.le_of_ble_eq_true rfl) rfl rfl ?_
  refine k_aload_n C d_Union_init_28 rfl 0 rfl rfl ?_
  refine k_bipush C d_Union_init_29 (v := (95 : Int32)) (by decide) rfl ?_
  refine k_newa (a0 := (95, .inr (.inl (fun _ => 0)))) C d_Union_init_31 mw198 rfl (fun _ _ h => h) 1 rfl (fun _ => rfl) (by decide) (by decide) (by decide) (Nat.le_of_ble_eq_true rfl) (Nat.le_of_ble_eq_true rfl) rfl (fun q4 => ?_)
  refine k_putF (ws' := [(h0, .inr (4, [.ref q1, .ref q2, .ref q3, .ref q4, .null, .null, .null, .int 0, .int 0, .int 0])), (q1, .inl (cJ, 61, .inr (.inl (fun _ => 0)))), (q2, .inl (cJ, 95, .inr (.inl (fun _ => 0)))), (q3, .inl (cI, 95, .inl (fun _ => 0))), (q4, .inl (cJ, 95, .inr (.inl (fun _ => 0))))]) C d_Union_init_33 hin_Union hty_Union hnn_Union rfl 3 (by decide) mw122 rfl rfl rfl 0 rfl rfl rfl (Nat.le_of_ble_eq_true rfl) rfl rfl ?_
  refine k_aload_n C d_Union_init_36 rfl 0 rfl rfl ?_
  refine k_bipush C d_Union_init_37 (v := (6 : Int32)) (by decide) rfl ?_
  refine k_newa (a0 := (6, .inr (.inl (fun _ => 0)))) C d_Union_init_39 mw198 rfl (fun _ _ h => h) 1 rfl (fun _ => rfl) (by decide) (by decide) (by decide) (Nat.le_of_ble_eq_true rfl) (Nat.le_of_ble_eq_true rfl) rfl (fun q5 => ?_)
  refine k_putF (ws' := [(h0, .inr (4, [.ref q1, .ref q2, .ref q3, .ref q4, .ref q5, .null, .null, .int 0, .int 0, .int 0])), (q1, .inl (cJ, 61, .inr (.inl (fun _ => 0)))), (q2, .inl (cJ, 95, .inr (.inl (fun _ => 0)))), (q3, .inl (cI, 95, .inl (fun _ => 0))), (q4, .inl (cJ, 95, .inr (.inl (fun _ => 0)))), (q5, .inl (cJ, 6, .inr (.inl (fun _ => 0))))]) C d_Union_init_41 hin_Union hty_Union hnn_Union rfl 4 (by decide) mw113 rfl rfl rfl 0 rfl rfl rfl (Nat.le_of_ble_eq_true rfl) rfl rfl ?_
  refine k_aload_n C d_Union_init_44 rfl 0 rfl rfl ?_
  refine k_bipush C d_Union_init_45 (v := (6 : Int32)) (by decide) rfl ?_
  refine k_newa (a0 := (6, .inl (fun _ => 0))) C d_Union_init_47 mw199 rfl (fun _ _ h => h) 0 rfl (fun _ => rfl) (by decide) (by decide) (by decide) (Nat.le_of_ble_eq_true rfl) (Nat.le_of_ble_eq_true rfl) rfl (fun q6 => ?_)
  refine k_putF (ws' := [(h0, .inr (4, [.ref q1, .ref q2, .ref q3, .ref q4, .ref q5, .ref q6, .null, .int 0, .int 0, .int 0])), (q1, .inl (cJ, 61, .inr (.inl (fun _ => 0)))), (q2, .inl (cJ, 95, .inr (.inl (fun _ => 0)))), (q3, .inl (cI, 95, .inl (fun _ => 0))), (q4, .inl (cJ, 95, .inr (.inl (fun _ => 0)))), (q5, .inl (cJ, 6, .inr (.inl (fun _ => 0)))), (q6, .inl (cI, 6, .inl (fun _ => 0)))]) C d_Union_init_49 hin_Union hty_Union hnn_Union rfl 5 (by decide) mw115 rfl rfl rfl 0 rfl rfl rfl (Nat.le_of_ble_eq_true rfl) rfl rfl ?_
  refine k_aload_n C d_Union_init_52 rfl 0 rfl rfl ?_
  refine k_bipush C d_Union_init_53 (v := (6 : Int32)) (by decide) rfl ?_
  refine k_newa (a0 := (6, .inl (fun _ => 0))) C d_Union_init_55 mw199 rfl (fun _ _ h => h) 0 rfl (fun _ => rfl) (by decide) (by decide) (by decide) (Nat.le_of_ble_eq_true rfl) (Nat.le_of_ble_eq_true rfl) rfl (fun q7 => ?_)
  refine k_putF (ws' := [(h0, .inr (4, [.ref q1, .ref q2, .ref q3, .ref q4, .ref q5, .ref q6, .ref q7, .int 0, .int 0, .int 0])), (q1, .inl (cJ, 61, .inr (.inl (fun _ => 0)))), (q2, .inl (cJ, 95, .inr (.inl (fun _ => 0)))), (q3, .inl (cI, 95, .inl (fun _ => 0))), (q4, .inl (cJ, 95, .inr (.inl (fun _ => 0)))), (q5, .inl (cJ, 6, .inr (.inl (fun _ => 0)))), (q6, .inl (cI, 6, .inl (fun _ => 0))), (q7, .inl (cI, 6, .inl (fun _ => 0)))]) C d_Union_init_57 hin_Union hty_Union hnn_Union rfl 6 (by decide) mw117 rfl rfl rfl 0 rfl rfl rfl (Nat.le_of_ble_eq_true rfl) rfl rfl ?_
  refine k_wide (k' := 7) (n' := 364) (Nat.le_of_ble_eq_true rfl) (Nat.le_of_ble_eq_true rfl) ?_
  exact k_vret C d_Union_init_60 ⟨rfl, q1, q2, q3, q4, q5, q6, q7, rfl⟩
theorem d_Graph_init_0 : decode b_Graph_init 0 = .ok (.aload_n 0, 1) := by decide +kernel
theorem d_Graph_init_1 : decode b_Graph_init 1 = .ok (.invokespecial 3, 3) := by decide +kernel
theorem d_Graph_init_4 : decode b_Graph_init 4 = .ok (.aload_n 0, 1) := by decide +kernel
theorem d_Graph_init_5 : decode b_Graph_init 5 = .ok (.bipush 120, 2) := by decide +kernel
theorem d_Graph_init_7 : decode b_Graph_init 7 = .ok (.newarray .long, 2) := by decide +kernel
theorem d_Graph_init_9 : decode b_Graph_init 9 = .ok (.putfield 9, 3) := by decide +kernel
theorem d_Graph_init_12 : decode b_Graph_init 12 = .ok (.aload_n 0, 1) := by decide +kernel
theorem d_Graph_init_13 : decode b_Graph_init 13 = .ok (.sipush 11400, 3) := by decide +kernel
theorem d_Graph_init_16 : decode b_Graph_init 16 = .ok (.newarray .int, 2) := by decide +kernel
theorem d_Graph_init_18 : decode b_Graph_init 18 = .ok (.putfield 15, 3) := by decide +kernel
theorem d_Graph_init_21 : decode b_Graph_init 21 = .ok (.aload_n 0, 1) := by decide +kernel
theorem d_Graph_init_22 : decode b_Graph_init 22 = .ok (.sipush 256, 3) := by decide +kernel
theorem d_Graph_init_25 : decode b_Graph_init 25 = .ok (.newarray .int, 2) := by decide +kernel
theorem d_Graph_init_27 : decode b_Graph_init 27 = .ok (.putfield 19, 3) := by decide +kernel
theorem d_Graph_init_30 : decode b_Graph_init 30 = .ok (.aload_n 0, 1) := by decide +kernel
theorem d_Graph_init_31 : decode b_Graph_init 31 = .ok (.aload_n 1, 1) := by decide +kernel
theorem d_Graph_init_32 : decode b_Graph_init 32 = .ok (.putfield 22, 3) := by decide +kernel
theorem d_Graph_init_35 : decode b_Graph_init 35 = .ok (.return_, 1) := by decide +kernel
set_option maxRecDepth 100000 in
set_option maxHeartbeats 4000000 in
theorem c_Graph_init {l : Launch} {D : va_G} {cI cJ cC cZ cR : ClassId} (h0 : Nat) (h1 : Nat) : GM l D (tysL cI cJ cC cZ cR) y_Graph_init b_Graph_init 2 none { frames := 1, cells := 3, slots := 11776, locals := 20 } [.ref h0, .ref h1] [(h0, .inr (5, [.null, .null, .null, .null, .int 0]))] (fun (o : Option Value) (w : va_W) => o = none ∧ ∃ q1 q2 q3 : Nat, w = [(h0, .inr (5, [.ref h1, .ref q1, .ref q2, .ref q3, .int 0])), (q1, .inl (cJ, 120, .inr (.inl (fun _ => 0)))), (q2, .inl (cI, 11400, .inl (fun _ => 0))), (q3, .inl (cI, 256, .inl (fun _ => 0)))]) := by
  refine GM.of (by decide) (Nat.le_of_ble_eq_true rfl) (lv := [(0, .ref h0), (1, .ref h1)]) rfl ?_
  intro X hX C
  subst hX
  refine k_aload_n C d_Graph_init_0 rfl 0 rfl rfl ?_
  refine k_objInit C d_Graph_init_1 mw210 h_obj (Nat.le_of_ble_eq_true rfl) (Nat.le_of_ble_eq_true rfl) rfl ?_
  refine k_aload_n C d_Graph_init_4 rfl 0 rfl rfl ?_
  refine k_bipush C d_Graph_init_5 (v := (120 : Int32)) (by decide) rfl ?_
  refine k_newa (a0 := (120, .inr (.inl (fun _ => 0)))) C d_Graph_init_7 mw198 rfl (fun _ _ h => h) 1 rfl (fun _ => rfl) (by decide) (by decide) (by decide) (Nat.le_of_ble_eq_true rfl) (Nat.le_of_ble_eq_true rfl) rfl (fun q1 => ?_)
  refine k_putF (ws' := [(h0, .inr (5, [.null, .ref q1, .null, .null, .int 0])), (q1, .inl (cJ, 120, .inr (.inl (fun _ => 0))))]) C d_Graph_init_9 hin_Graph hty_Graph hnn_Graph rfl 1 (by decide) mw127 rfl rfl rfl 0 rfl rfl rfl (Nat.le_of_ble_eq_true rfl) rfl rfl ?_
  refine k_aload_n C d_Graph_init_12 rfl 0 rfl rfl ?_
  refine k_sipush C d_Graph_init_13 (v := (11400 : Int32)) (by decide) rfl ?_
  refine k_newa (a0 := (11400, .inl (fun _ => 0))) C d_Graph_init_16 mw199 rfl (fun _ _ h => h) 0 rfl (fun _ => rfl) (by decide) (by decide) (by decide) (Nat.le_of_ble_eq_true rfl) (Nat.le_of_ble_eq_true rfl) rfl (fun q2 => ?_)
  refine k_putF (ws' := [(h0, .inr (5, [.null, .ref q1, .ref q2, .null, .int 0])), (q1, .inl (cJ, 120, .inr (.inl (fun _ => 0)))), (q2, .inl (cI, 11400, .inl (fun _ => 0)))]) C d_Graph_init_18 hin_Graph hty_Graph hnn_Graph rfl 2 (by decide) mw133 rfl rfl rfl 0 rfl rfl rfl (Nat.le_of_ble_eq_true rfl) rfl rfl ?_
  refine k_aload_n C d_Graph_init_21 rfl 0 rfl rfl ?_
  refine k_sipush C d_Graph_init_22 (v := (256 : Int32)) (by decide) rfl ?_
  refine k_newa (a0 := (256, .inl (fun _ => 0))) C d_Graph_init_25 mw199 rfl (fun _ _ h => h) 0 rfl (fun _ => rfl) (by decide) (by decide) (by decide) (Nat.le_of_ble_eq_true rfl) (Nat.le_of_ble_eq_true rfl) rfl (fun q3 => ?_)
  refine k_putF (ws' := [(h0, .inr (5, [.null, .ref q1, .ref q2, .ref q3, .int 0])), (q1, .inl (cJ, 120, .inr (.inl (fun _ => 0)))), (q2, .inl (cI, 11400, .inl (fun _ => 0))), (q3, .inl (cI, 256, .inl (fun _ => 0)))]) C d_Graph_init_27 hin_Graph hty_Graph hnn_Graph rfl 3 (by decide) mw128 rfl rfl rfl 0 rfl rfl rfl (Nat.le_of_ble_eq_true rfl) rfl rfl ?_
  refine k_aload_n C d_Graph_init_30 rfl 0 rfl rfl ?_
  refine k_aload_n C d_Graph_init_31 rfl 1 rfl rfl ?_
  refine k_putF (ws' := [(h0, .inr (5, [.ref h1, .ref q1, .ref q2, .ref q3, .int 0])), (q1, .inl (cJ, 120, .inr (.inl (fun _ => 0)))), (q2, .inl (cI, 11400, .inl (fun _ => 0))), (q3, .inl (cI, 256, .inl (fun _ => 0)))]) C d_Graph_init_32 hin_Graph hty_Graph hnn_Graph rfl 0 (by decide) mw131 rfl rfl rfl 0 rfl rfl rfl (Nat.le_of_ble_eq_true rfl) rfl rfl ?_
  refine k_wide (k' := 3) (n' := 11776) (Nat.le_of_ble_eq_true rfl) (Nat.le_of_ble_eq_true rfl) ?_
  exact k_vret C d_Graph_init_35 ⟨rfl, q1, q2, q3, rfl⟩
theorem d_Table_init_0 : decode b_Table_init 0 = .ok (.aload_n 0, 1) := by decide +kernel
theorem d_Table_init_1 : decode b_Table_init 1 = .ok (.invokespecial 3, 3) := by decide +kernel
theorem d_Table_init_4 : decode b_Table_init 4 = .ok (.aload_n 0, 1) := by decide +kernel
theorem d_Table_init_5 : decode b_Table_init 5 = .ok (.bipush 120, 2) := by decide +kernel
theorem d_Table_init_7 : decode b_Table_init 7 = .ok (.newarray .int, 2) := by decide +kernel
theorem d_Table_init_9 : decode b_Table_init 9 = .ok (.putfield 9, 3) := by decide +kernel
theorem d_Table_init_12 : decode b_Table_init 12 = .ok (.aload_n 0, 1) := by decide +kernel
theorem d_Table_init_13 : decode b_Table_init 13 = .ok (.bipush 120, 2) := by decide +kernel
theorem d_Table_init_15 : decode b_Table_init 15 = .ok (.newarray .int, 2) := by decide +kernel
theorem d_Table_init_17 : decode b_Table_init 17 = .ok (.putfield 15, 3) := by decide +kernel
theorem d_Table_init_20 : decode b_Table_init 20 = .ok (.aload_n 0, 1) := by decide +kernel
theorem d_Table_init_21 : decode b_Table_init 21 = .ok (.bipush 120, 2) := by decide +kernel
theorem d_Table_init_23 : decode b_Table_init 23 = .ok (.newarray .int, 2) := by decide +kernel
theorem d_Table_init_25 : decode b_Table_init 25 = .ok (.putfield 18, 3) := by decide +kernel
theorem d_Table_init_28 : decode b_Table_init 28 = .ok (.aload_n 0, 1) := by decide +kernel
theorem d_Table_init_29 : decode b_Table_init 29 = .ok (.bipush 120, 2) := by decide +kernel
theorem d_Table_init_31 : decode b_Table_init 31 = .ok (.newarray .int, 2) := by decide +kernel
theorem d_Table_init_33 : decode b_Table_init 33 = .ok (.putfield 21, 3) := by decide +kernel
theorem d_Table_init_36 : decode b_Table_init 36 = .ok (.aload_n 0, 1) := by decide +kernel
theorem d_Table_init_37 : decode b_Table_init 37 = .ok (.bipush 120, 2) := by decide +kernel
theorem d_Table_init_39 : decode b_Table_init 39 = .ok (.newarray .int, 2) := by decide +kernel
theorem d_Table_init_41 : decode b_Table_init 41 = .ok (.putfield 24, 3) := by decide +kernel
theorem d_Table_init_44 : decode b_Table_init 44 = .ok (.aload_n 0, 1) := by decide +kernel
theorem d_Table_init_45 : decode b_Table_init 45 = .ok (.bipush 120, 2) := by decide +kernel
theorem d_Table_init_47 : decode b_Table_init 47 = .ok (.newarray .int, 2) := by decide +kernel
theorem d_Table_init_49 : decode b_Table_init 49 = .ok (.putfield 27, 3) := by decide +kernel
theorem d_Table_init_52 : decode b_Table_init 52 = .ok (.aload_n 0, 1) := by decide +kernel
theorem d_Table_init_53 : decode b_Table_init 53 = .ok (.aload_n 1, 1) := by decide +kernel
theorem d_Table_init_54 : decode b_Table_init 54 = .ok (.putfield 30, 3) := by decide +kernel
theorem d_Table_init_57 : decode b_Table_init 57 = .ok (.aload_n 0, 1) := by decide +kernel
theorem d_Table_init_58 : decode b_Table_init 58 = .ok (.new 34, 3) := by decide +kernel
theorem d_Table_init_61 : decode b_Table_init 61 = .ok (.dup, 1) := by decide +kernel
theorem d_Table_init_62 : decode b_Table_init 62 = .ok (.aload_n 1, 1) := by decide +kernel
theorem d_Table_init_63 : decode b_Table_init 63 = .ok (.invokespecial 36, 3) := by decide +kernel
theorem d_Table_init_66 : decode b_Table_init 66 = .ok (.putfield 39, 3) := by decide +kernel
theorem d_Table_init_69 : decode b_Table_init 69 = .ok (.return_, 1) := by decide +kernel
set_option maxRecDepth 100000 in
set_option maxHeartbeats 4000000 in
theorem c_Table_init {l : Launch} {D : va_G} {cI cJ cC cZ cR : ClassId} (h0 : Nat) (h1 : Nat) : GM l D (tysL cI cJ cC cZ cR) y_Table_init b_Table_init 2 none { frames := 2, cells := 10, slots := 12501, locals := 41 } [.ref h0, .ref h1] [(h0, .inr (6, [.null, .null, .null, .null, .null, .null, .null, .null, .int 0, .int 0]))] (fun (o : Option Value) (w : va_W) => o = none ∧ ∃ q1 q2 q3 q4 q5 q6 q7 q8 q9 q10 : Nat, w = [(h0, .inr (6, [.ref h1, .ref q7, .ref q1, .ref q2, .ref q3, .ref q4, .ref q5, .ref q6, .int 0, .int 0])), (q1, .inl (cI, 120, .inl (fun _ => 0))), (q2, .inl (cI, 120, .inl (fun _ => 0))), (q3, .inl (cI, 120, .inl (fun _ => 0))), (q4, .inl (cI, 120, .inl (fun _ => 0))), (q5, .inl (cI, 120, .inl (fun _ => 0))), (q6, .inl (cI, 120, .inl (fun _ => 0))), (q7, .inr (5, [.ref h1, .ref q8, .ref q9, .ref q10, .int 0])), (q8, .inl (cJ, 120, .inr (.inl (fun _ => 0)))), (q9, .inl (cI, 11400, .inl (fun _ => 0))), (q10, .inl (cI, 256, .inl (fun _ => 0)))]) := by
  refine GM.of (by decide) (Nat.le_of_ble_eq_true rfl) (lv := [(0, .ref h0), (1, .ref h1)]) rfl ?_
  intro X hX C
  subst hX
  refine k_aload_n C d_Table_init_0 rfl 0 rfl rfl ?_
  refine k_objInit C d_Table_init_1 mw211 h_obj (Nat.le_of_ble_eq_true rfl) (Nat.le_of_ble_eq_true rfl) rfl ?_
  refine k_aload_n C d_Table_init_4 rfl 0 rfl rfl ?_
  refine k_bipush C d_Table_init_5 (v := (120 : Int32)) (by decide) rfl ?_
  refine k_newa (a0 := (120, .inl (fun _ => 0))) C d_Table_init_7 mw199 rfl (fun _ _ h => h) 0 rfl (fun _ => rfl) (by decide) (by decide) (by decide) (Nat.le_of_ble_eq_true rfl) (Nat.le_of_ble_eq_true rfl) rfl (fun q1 => ?_)
  refine k_putF (ws' := [(h0, .inr (6, [.null, .null, .ref q1, .null, .null, .null, .null, .null, .int 0, .int 0])), (q1, .inl (cI, 120, .inl (fun _ => 0)))]) C d_Table_init_9 hin_Table hty_Table hnn_Table rfl 2 (by decide) mw143 rfl rfl rfl 0 rfl rfl rfl (Nat.le_of_ble_eq_true rfl) rfl rfl ?_
  refine k_aload_n C d_Table_init_12 rfl 0 rfl rfl ?_
  refine k_bipush C d_Table_init_13 (v := (120 : Int32)) (by decide) rfl ?_
  refine k_newa (a0 := (120, .inl (fun _ => 0))) C d_Table_init_15 mw199 rfl (fun _ _ h => h) 0 rfl (fun _ => rfl) (by decide) (by decide) (by decide) (Nat.le_of_ble_eq_true rfl) (Nat.le_of_ble_eq_true rfl) rfl (fun q2 => ?_)
  refine k_putF (ws' := [(h0, .inr (6, [.null, .null, .ref q1, .ref q2, .null, .null, .null, .null, .int 0, .int 0])), (q1, .inl (cI, 120, .inl (fun _ => 0))), (q2, .inl (cI, 120, .inl (fun _ => 0)))]) C d_Table_init_17 hin_Table hty_Table hnn_Table rfl 3 (by decide) mw150 rfl rfl rfl 0 rfl rfl rfl (Nat.le_of_ble_eq_true rfl) rfl rfl ?_
  refine k_aload_n C d_Table_init_20 rfl 0 rfl rfl ?_
  refine k_bipush C d_Table_init_21 (v := (120 : Int32)) (by decide) rfl ?_
  refine k_newa (a0 := (120, .inl (fun _ => 0))) C d_Table_init_23 mw199 rfl (fun _ _ h => h) 0 rfl (fun _ => rfl) (by decide) (by decide) (by decide) (Nat.le_of_ble_eq_true rfl) (Nat.le_of_ble_eq_true rfl) rfl (fun q3 => ?_)
  refine k_putF (ws' := [(h0, .inr (6, [.null, .null, .ref q1, .ref q2, .ref q3, .null, .null, .null, .int 0, .int 0])), (q1, .inl (cI, 120, .inl (fun _ => 0))), (q2, .inl (cI, 120, .inl (fun _ => 0))), (q3, .inl (cI, 120, .inl (fun _ => 0)))]) C d_Table_init_25 hin_Table hty_Table hnn_Table rfl 4 (by decide) mw151 rfl rfl rfl 0 rfl rfl rfl (Nat.le_of_ble_eq_true rfl) rfl rfl ?_
  refine k_aload_n C d_Table_init_28 rfl 0 rfl rfl ?_
  refine k_bipush C d_Table_init_29 (v := (120 : Int32)) (by decide) rfl ?_
  refine k_newa (a0 := (120, .inl (fun _ => 0))) C d_Table_init_31 mw199 rfl (fun _ _ h => h) 0 rfl (fun _ => rfl) (by decide) (by decide) (by decide) (Nat.le_of_ble_eq_true rfl) (Nat.le_of_ble_eq_true rfl) rfl (fun q4 => ?_)
  refine k_putF (ws' := [(h0, .inr (6, [.null, .null, .ref q1, .ref q2, .ref q3, .ref q4, .null, .null, .int 0, .int 0])), (q1, .inl (cI, 120, .inl (fun _ => 0))), (q2, .inl (cI, 120, .inl (fun _ => 0))), (q3, .inl (cI, 120, .inl (fun _ => 0))), (q4, .inl (cI, 120, .inl (fun _ => 0)))]) C d_Table_init_33 hin_Table hty_Table hnn_Table rfl 5 (by decide) mw154 rfl rfl rfl 0 rfl rfl rfl (Nat.le_of_ble_eq_true rfl) rfl rfl ?_
  refine k_aload_n C d_Table_init_36 rfl 0 rfl rfl ?_
  refine k_bipush C d_Table_init_37 (v := (120 : Int32)) (by decide) rfl ?_
  refine k_newa (a0 := (120, .inl (fun _ => 0))) C d_Table_init_39 mw199 rfl (fun _ _ h => h) 0 rfl (fun _ => rfl) (by decide) (by decide) (by decide) (Nat.le_of_ble_eq_true rfl) (Nat.le_of_ble_eq_true rfl) rfl (fun q5 => ?_)
  refine k_putF (ws' := [(h0, .inr (6, [.null, .null, .ref q1, .ref q2, .ref q3, .ref q4, .ref q5, .null, .int 0, .int 0])), (q1, .inl (cI, 120, .inl (fun _ => 0))), (q2, .inl (cI, 120, .inl (fun _ => 0))), (q3, .inl (cI, 120, .inl (fun _ => 0))), (q4, .inl (cI, 120, .inl (fun _ => 0))), (q5, .inl (cI, 120, .inl (fun _ => 0)))]) C d_Table_init_41 hin_Table hty_Table hnn_Table rfl 6 (by decide) mw155 rfl rfl rfl 0 rfl rfl rfl (Nat.le_of_ble_eq_true rfl) rfl rfl ?_
  refine k_aload_n C d_Table_init_44 rfl 0 rfl rfl ?_
  refine k_bipush C d_Table_init_45 (v := (120 : Int32)) (by decide) rfl ?_
  refine k_newa (a0 := (120, .inl (fun _ => 0))) C d_Table_init_47 mw199 rfl (fun _ _ h => h) 0 rfl (fun _ => rfl) (by decide) (by decide) (by decide) (Nat.le_of_ble_eq_true rfl) (Nat.le_of_ble_eq_true rfl) rfl (fun q6 => ?_)
  refine k_putF (ws' := [(h0, .inr (6, [.null, .null, .ref q1, .ref q2, .ref q3, .ref q4, .ref q5, .ref q6, .int 0, .int 0])), (q1, .inl (cI, 120, .inl (fun _ => 0))), (q2, .inl (cI, 120, .inl (fun _ => 0))), (q3, .inl (cI, 120, .inl (fun _ => 0))), (q4, .inl (cI, 120, .inl (fun _ => 0))), (q5, .inl (cI, 120, .inl (fun _ => 0))), (q6, .inl (cI, 120, .inl (fun _ => 0)))]) C d_Table_init_49 hin_Table hty_Table hnn_Table rfl 7 (by decide) mw156 rfl rfl rfl 0 rfl rfl rfl (Nat.le_of_ble_eq_true rfl) rfl rfl ?_
  refine k_aload_n C d_Table_init_52 rfl 0 rfl rfl ?_
  refine k_aload_n C d_Table_init_53 rfl 1 rfl rfl ?_
  refine k_putF (ws' := [(h0, .inr (6, [.ref h1, .null, .ref q1, .ref q2, .ref q3, .ref q4, .ref q5, .ref q6, .int 0, .int 0])), (q1, .inl (cI, 120, .inl (fun _ => 0))), (q2, .inl (cI, 120, .inl (fun _ => 0))), (q3, .inl (cI, 120, .inl (fun _ => 0))), (q4, .inl (cI, 120, .inl (fun _ => 0))), (q5, .inl (cI, 120, .inl (fun _ => 0))), (q6, .inl (cI, 120, .inl (fun _ => 0)))]) C d_Table_init_54 hin_Table hty_Table hnn_Table rfl 0 (by decide) mw144 rfl rfl rfl 0 rfl rfl rfl (Nat.le_of_ble_eq_true rfl) rfl rfl ?_
  refine k_aload_n C d_Table_init_57 rfl 0 rfl rfl ?_
  refine k_new (ci := 5) (fs := [.null, .null, .null, .null, .int 0]) C d_Table_init_58 hin_Graph hty_Graph rfl mw214 ⟨mw212, mw213⟩ (fun j hj => dv_Graph j hj) (Nat.le_of_ble_eq_true rfl) (Nat.le_of_ble_eq_true rfl) rfl (fun q7 => ?_)
  refine k_dup C d_Table_init_61 rfl rfl ?_
  refine k_aload_n C d_Table_init_62 rfl 1 rfl rfl ?_
  refine k_callI (As := [.ref h1]) (st := [.ref q7, .ref h0]) (wr := [(h0, .inr (6, [.ref h1, .null, .ref q1, .ref q2, .ref q3, .ref q4, .ref q5, .ref q6, .int 0, .int 0])), (q1, .inl (cI, 120, .inl (fun _ => 0))), (q2, .inl (cI, 120, .inl (fun _ => 0))), (q3, .inl (cI, 120, .inl (fun _ => 0))), (q4, .inl (cI, 120, .inl (fun _ => 0))), (q5, .inl (cI, 120, .inl (fun _ => 0))), (q6, .inl (cI, 120, .inl (fun _ => 0)))]) C d_Table_init_63 (c_Graph_init q7 h1) co_Graph_init mw216 mw215 rfl (by decide) ⟨(Nat.le_of_ble_eq_true rfl), (Nat.le_of_ble_eq_true rfl)⟩ (Nat.le_of_ble_eq_true rfl) rfl [7] [0, 1, 2, 3, 4, 5, 6] rfl rfl rfl rfl (by decide) rfl (fun o w hq => ?_)
  obtain ⟨rfl, q8, q9, q10, rfl⟩ := hq
  refine k_st (st' := [.ref q7, .ref h0]) rfl ?_
  refine k_putF (ws' := [(h0, .inr (6, [.ref h1, .ref q7, .ref q1, .ref q2, .ref q3, .ref q4, .ref q5, .ref q6, .int 0, .int 0])), (q1, .inl (cI, 120, .inl (fun _ => 0))), (q2, .inl (cI, 120, .inl (fun _ => 0))), (q3, .inl (cI, 120, .inl (fun _ => 0))), (q4, .inl (cI, 120, .inl (fun _ => 0))), (q5, .inl (cI, 120, .inl (fun _ => 0))), (q6, .inl (cI, 120, .inl (fun _ => 0))), (q7, .inr (5, [.ref h1, .ref q8, .ref q9, .ref q10, .int 0])), (q8, .inl (cJ, 120, .inr (.inl (fun _ => 0)))), (q9, .inl (cI, 11400, .inl (fun _ => 0))), (q10, .inl (cI, 256, .inl (fun _ => 0)))]) C d_Table_init_66 hin_Table hty_Table hnn_Table rfl 1 (by decide) mw141 rfl rfl rfl 0 rfl rfl rfl (Nat.le_of_ble_eq_true rfl) rfl rfl ?_
  refine k_wide (k' := 10) (n' := 12501) (Nat.le_of_ble_eq_true rfl) (Nat.le_of_ble_eq_true rfl) ?_
  exact k_vret C d_Table_init_69 ⟨rfl, q1, q2, q3, q4, q5, q6, q7, q8, q9, q10, rfl⟩
