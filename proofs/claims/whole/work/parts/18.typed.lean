theorem d_Typed_byteOf_0 : decode b_Typed_byteOf 0 = .ok (.iload_n 0, 1) := by decide +kernel
theorem d_Typed_byteOf_1 : decode b_Typed_byteOf 1 = .ok (.bipush 8, 2) := by decide +kernel
theorem d_Typed_byteOf_3 : decode b_Typed_byteOf 3 = .ok (.iload_n 1, 1) := by decide +kernel
theorem d_Typed_byteOf_4 : decode b_Typed_byteOf 4 = .ok (.imul, 1) := by decide +kernel
theorem d_Typed_byteOf_5 : decode b_Typed_byteOf 5 = .ok (.iushr, 1) := by decide +kernel
theorem d_Typed_byteOf_6 : decode b_Typed_byteOf 6 = .ok (.sipush 255, 3) := by decide +kernel
theorem d_Typed_byteOf_9 : decode b_Typed_byteOf 9 = .ok (.iand, 1) := by decide +kernel
theorem d_Typed_byteOf_10 : decode b_Typed_byteOf 10 = .ok (.ireturn, 1) := by decide +kernel
abbrev w_Typed_byteOf : va_W := []
def f_Typed_byteOf (p0 : Int32) (p1 : Int32) : Option (Int32) := some ((jushr p0 ((8 : Int32) * p1)) &&& (255 : Int32))
set_option maxRecDepth 100000 in
set_option maxHeartbeats 4000000 in
theorem c_Typed_byteOf {l : Launch} {D : va_G} {cI cJ cC cZ cR : ClassId} (fu : Nat)     (p0 : Int32) (p1 : Int32) (o_r : Int32) (h : f_Typed_byteOf p0 p1 = some o_r) : GM l D (tysL cI cJ cC cZ cR) y_Typed_byteOf b_Typed_byteOf 2 (some (.int)) { frames := 0, cells := 0, slots := 0, locals := 0 } [.int p0, .int p1] (w_Typed_byteOf) (fun (o : Option Value) (w : va_W) => o = some (.int o_r) ∧ w = w_Typed_byteOf) := by
  refine GM.of (by decide) (Nat.le_of_ble_eq_true rfl) (lv := [(0, .int p0), (1, .int p1)]) rfl ?_
  intro X hX C
  subst hX
  refine k_iload_n C d_Typed_byteOf_0 rfl 0 rfl rfl ?_
  refine k_bipush C d_Typed_byteOf_1 (v := (8 : Int32)) (by decide) rfl ?_
  refine k_iload_n C d_Typed_byteOf_3 rfl 1 rfl rfl ?_
  refine k_imul C d_Typed_byteOf_4 rfl ?_
  refine k_iushr C d_Typed_byteOf_5 rfl ?_
  refine k_sipush C d_Typed_byteOf_6 (v := (255 : Int32)) (by decide) rfl ?_
  refine k_iand C d_Typed_byteOf_9 rfl ?_
  exact k_iret C d_Typed_byteOf_10 (tr1 h (fun t => (fun (o : Option Value) (w : va_W) => o = some (.int (t)) ∧ w = w_Typed_byteOf) (some (Value.int ((jushr p0 ((8 : Int32) * p1)) &&& (255 : Int32)))) (w_Typed_byteOf)) ⟨rfl, rfl⟩)
theorem d_Typed_append_0 : decode b_Typed_append 0 = .ok (.iload_n 2, 1) := by decide +kernel
theorem d_Typed_append_1 : decode b_Typed_append 1 = .ok (.iconst 1, 1) := by decide +kernel
theorem d_Typed_append_2 : decode b_Typed_append 2 = .ok (.if_icmp .lt 22, 3) := by decide +kernel
theorem d_Typed_append_5 : decode b_Typed_append 5 = .ok (.iload_n 2, 1) := by decide +kernel
theorem d_Typed_append_6 : decode b_Typed_append 6 = .ok (.iconst 4, 1) := by decide +kernel
theorem d_Typed_append_7 : decode b_Typed_append 7 = .ok (.if_icmp .gt 17, 3) := by decide +kernel
theorem d_Typed_append_10 : decode b_Typed_append 10 = .ok (.aload_n 0, 1) := by decide +kernel
theorem d_Typed_append_11 : decode b_Typed_append 11 = .ok (.getfield 15, 3) := by decide +kernel
theorem d_Typed_append_14 : decode b_Typed_append 14 = .ok (.iload_n 2, 1) := by decide +kernel
theorem d_Typed_append_15 : decode b_Typed_append 15 = .ok (.iadd, 1) := by decide +kernel
theorem d_Typed_append_16 : decode b_Typed_append 16 = .ok (.aload_n 0, 1) := by decide +kernel
theorem d_Typed_append_17 : decode b_Typed_append 17 = .ok (.getfield 9, 3) := by decide +kernel
theorem d_Typed_append_20 : decode b_Typed_append 20 = .ok (.arraylength, 1) := by decide +kernel
theorem d_Typed_append_21 : decode b_Typed_append 21 = .ok (.if_icmp .le 5, 3) := by decide +kernel
theorem d_Typed_append_24 : decode b_Typed_append 24 = .ok (.iconst 0, 1) := by decide +kernel
theorem d_Typed_append_25 : decode b_Typed_append 25 = .ok (.ireturn, 1) := by decide +kernel
theorem d_Typed_append_26 : decode b_Typed_append 26 = .ok (.iconst 0, 1) := by decide +kernel
theorem d_Typed_append_27 : decode b_Typed_append 27 = .ok (.istore_n 3, 1) := by decide +kernel
theorem d_Typed_append_28 : decode b_Typed_append 28 = .ok (.iload_n 3, 1) := by decide +kernel
theorem d_Typed_append_29 : decode b_Typed_append 29 = .ok (.iload_n 2, 1) := by decide +kernel
theorem d_Typed_append_30 : decode b_Typed_append 30 = .ok (.if_icmp .ge 32, 3) := by decide +kernel
theorem d_Typed_append_33 : decode b_Typed_append 33 = .ok (.iload_n 1, 1) := by decide +kernel
theorem d_Typed_append_34 : decode b_Typed_append 34 = .ok (.iload_n 3, 1) := by decide +kernel
theorem d_Typed_append_35 : decode b_Typed_append 35 = .ok (.invokestatic 19, 3) := by decide +kernel
theorem d_Typed_append_38 : decode b_Typed_append 38 = .ok (.istore 4, 2) := by decide +kernel
theorem d_Typed_append_40 : decode b_Typed_append 40 = .ok (.iload 4, 2) := by decide +kernel
theorem d_Typed_append_42 : decode b_Typed_append 42 = .ok (.bipush 33, 2) := by decide +kernel
theorem d_Typed_append_44 : decode b_Typed_append 44 = .ok (.if_icmp .lt 10, 3) := by decide +kernel
theorem d_Typed_append_47 : decode b_Typed_append 47 = .ok (.iload 4, 2) := by decide +kernel
theorem d_Typed_append_49 : decode b_Typed_append 49 = .ok (.bipush 126, 2) := by decide +kernel
theorem d_Typed_append_51 : decode b_Typed_append 51 = .ok (.if_icmp .le 5, 3) := by decide +kernel
theorem d_Typed_append_54 : decode b_Typed_append 54 = .ok (.iconst 0, 1) := by decide +kernel
theorem d_Typed_append_55 : decode b_Typed_append 55 = .ok (.ireturn, 1) := by decide +kernel
theorem d_Typed_append_56 : decode b_Typed_append 56 = .ok (.iinc 3 1, 3) := by decide +kernel
theorem d_Typed_append_59 : decode b_Typed_append 59 = .ok (.goto (-31), 3) := by decide +kernel
theorem d_Typed_append_62 : decode b_Typed_append 62 = .ok (.iload_n 2, 1) := by decide +kernel
theorem d_Typed_append_63 : decode b_Typed_append 63 = .ok (.iconst 1, 1) := by decide +kernel
theorem d_Typed_append_64 : decode b_Typed_append 64 = .ok (.isub, 1) := by decide +kernel
theorem d_Typed_append_65 : decode b_Typed_append 65 = .ok (.istore_n 3, 1) := by decide +kernel
theorem d_Typed_append_66 : decode b_Typed_append 66 = .ok (.iload_n 3, 1) := by decide +kernel
theorem d_Typed_append_67 : decode b_Typed_append 67 = .ok (.ifCond .lt 34, 3) := by decide +kernel
theorem d_Typed_append_70 : decode b_Typed_append 70 = .ok (.aload_n 0, 1) := by decide +kernel
theorem d_Typed_append_71 : decode b_Typed_append 71 = .ok (.getfield 9, 3) := by decide +kernel
theorem d_Typed_append_74 : decode b_Typed_append 74 = .ok (.aload_n 0, 1) := by decide +kernel
theorem d_Typed_append_75 : decode b_Typed_append 75 = .ok (.getfield 15, 3) := by decide +kernel
theorem d_Typed_append_78 : decode b_Typed_append 78 = .ok (.iload_n 1, 1) := by decide +kernel
theorem d_Typed_append_79 : decode b_Typed_append 79 = .ok (.iload_n 3, 1) := by decide +kernel
theorem d_Typed_append_80 : decode b_Typed_append 80 = .ok (.invokestatic 19, 3) := by decide +kernel
theorem d_Typed_append_83 : decode b_Typed_append 83 = .ok (.i2c, 1) := by decide +kernel
theorem d_Typed_append_84 : decode b_Typed_append 84 = .ok (.castore, 1) := by decide +kernel
theorem d_Typed_append_85 : decode b_Typed_append 85 = .ok (.aload_n 0, 1) := by decide +kernel
theorem d_Typed_append_86 : decode b_Typed_append 86 = .ok (.dup, 1) := by decide +kernel
theorem d_Typed_append_87 : decode b_Typed_append 87 = .ok (.getfield 15, 3) := by decide +kernel
theorem d_Typed_append_90 : decode b_Typed_append 90 = .ok (.iconst 1, 1) := by decide +kernel
theorem d_Typed_append_91 : decode b_Typed_append 91 = .ok (.iadd, 1) := by decide +kernel
theorem d_Typed_append_92 : decode b_Typed_append 92 = .ok (.putfield 15, 3) := by decide +kernel
theorem d_Typed_append_95 : decode b_Typed_append 95 = .ok (.iinc 3 (-1), 3) := by decide +kernel
theorem d_Typed_append_98 : decode b_Typed_append 98 = .ok (.goto (-32), 3) := by decide +kernel
theorem d_Typed_append_101 : decode b_Typed_append 101 = .ok (.iconst 1, 1) := by decide +kernel
theorem d_Typed_append_102 : decode b_Typed_append 102 = .ok (.ireturn, 1) := by decide +kernel
abbrev w_Typed_append {cI cJ cC cZ cR : ClassId} (a_t a_tc : Nat) (tt_length : Int32) (tt_ch : Nat → Int32) : va_W := [(a_t, .inr (0, [.ref a_tc, .int tt_length])), (a_tc, .inl (cC, 40, .inl tt_ch))]
def f_Typed_append_L66 (p1 : Int32) (kk66_0 : Int32 → Int32 → (Nat → Int32) → Option (Int32 × Int32 × (Nat → Int32))) : Nat → Int32 → Int32 → (Nat → Int32) → Option (Int32 × Int32 × (Nat → Int32))
  | 0, _, _, _ => none
  | n_66 + 1, l3_66, tt_length_66, tt_ch_66 => (if l3_66 < 0 then (kk66_0 l3_66 tt_length_66 tt_ch_66) else (Option.bind (f_Typed_byteOf p1 l3_66) fun r12 => (if inB tt_length_66 40 = true then (f_Typed_append_L66 p1 kk66_0 n_66 (l3_66 + (-1)) (tt_length_66 + (1 : Int32)) (upd tt_ch_66 tt_length_66.toNatClampNeg (vp_nar .char (ji2c r12)))) else none)))
theorem f_Typed_append_L66_s (p1 : Int32) (kk66_0 : Int32 → Int32 → (Nat → Int32) → Option (Int32 × Int32 × (Nat → Int32))) (n_66 : Nat) (l3_66 : Int32) (tt_length_66 : Int32) (tt_ch_66 : Nat → Int32) : f_Typed_append_L66 p1 kk66_0 (n_66 + 1) l3_66 tt_length_66 tt_ch_66 = (if l3_66 < 0 then (kk66_0 l3_66 tt_length_66 tt_ch_66) else (Option.bind (f_Typed_byteOf p1 l3_66) fun r12 => (if inB tt_length_66 40 = true then (f_Typed_append_L66 p1 kk66_0 n_66 (l3_66 + (-1)) (tt_length_66 + (1 : Int32)) (upd tt_ch_66 tt_length_66.toNatClampNeg (vp_nar .char (ji2c r12)))) else none))) := rfl
def f_Typed_append_L28 (p1 : Int32) (p2 : Int32) (kk28_0 : Int32 → Option (Int32 × Int32 × (Nat → Int32))) (kk28_1 : Int32 → Option (Int32 × Int32 × (Nat → Int32))) : Nat → Int32 → Option (Int32 × Int32 × (Nat → Int32))
  | 0, _ => none
  | n_28 + 1, l3_28 => (if p2 ≤ l3_28 then (kk28_0 l3_28) else (Option.bind (f_Typed_byteOf p1 l3_28) fun r7 => (if r7 < (33 : Int32) then (kk28_1 l3_28) else (if r7 ≤ (126 : Int32) then (f_Typed_append_L28 p1 p2 kk28_0 kk28_1 n_28 (l3_28 + 1)) else (kk28_1 l3_28)))))
theorem f_Typed_append_L28_s (p1 : Int32) (p2 : Int32) (kk28_0 : Int32 → Option (Int32 × Int32 × (Nat → Int32))) (kk28_1 : Int32 → Option (Int32 × Int32 × (Nat → Int32))) (n_28 : Nat) (l3_28 : Int32) : f_Typed_append_L28 p1 p2 kk28_0 kk28_1 (n_28 + 1) l3_28 = (if p2 ≤ l3_28 then (kk28_0 l3_28) else (Option.bind (f_Typed_byteOf p1 l3_28) fun r7 => (if r7 < (33 : Int32) then (kk28_1 l3_28) else (if r7 ≤ (126 : Int32) then (f_Typed_append_L28 p1 p2 kk28_0 kk28_1 n_28 (l3_28 + 1)) else (kk28_1 l3_28))))) := rfl
def f_Typed_append (fu : Nat) (p1 : Int32) (p2 : Int32) (tt_length : Int32) (tt_ch : Nat → Int32) : Option (Int32 × Int32 × (Nat → Int32)) := (if p2 < (1 : Int32) then (if ((0 : Int32) = 0 ∨ (0 : Int32) = 1) then some ((0 : Int32), tt_length, tt_ch) else none) else (if (4 : Int32) < p2 then (if ((0 : Int32) = 0 ∨ (0 : Int32) = 1) then some ((0 : Int32), tt_length, tt_ch) else none) else (if (tt_length + p2) ≤ (40 : Int32) then (f_Typed_append_L28 p1 p2 (fun l3_28 => (f_Typed_append_L66 p1 (fun l3_66 tt_length_66 tt_ch_66 => (if ((1 : Int32) = 0 ∨ (1 : Int32) = 1) then some ((1 : Int32), tt_length_66, tt_ch_66) else none)) fu (p2 - (1 : Int32)) tt_length tt_ch)) (fun l3_28 => (if ((0 : Int32) = 0 ∨ (0 : Int32) = 1) then some ((0 : Int32), tt_length, tt_ch) else none)) fu (0 : Int32)) else (if ((0 : Int32) = 0 ∨ (0 : Int32) = 1) then some ((0 : Int32), tt_length, tt_ch) else none))))
set_option maxRecDepth 100000 in
set_option maxHeartbeats 4000000 in
theorem c_Typed_append {l : Launch} {D : va_G} {cI cJ cC cZ cR : ClassId} (fu : Nat) (a_t a_tc : Nat)   (tt_length : Int32) (tt_ch : Nat → Int32) (p1 : Int32) (p2 : Int32) (o_r : Int32) (o_tt_length : Int32) (o_tt_ch : Nat → Int32) (h : f_Typed_append fu p1 p2 tt_length tt_ch = some (o_r, o_tt_length, o_tt_ch)) : GM l D (tysL cI cJ cC cZ cR) y_Typed_append b_Typed_append 5 (some (.boolean)) { frames := 1, cells := 0, slots := 0, locals := 21 } [.ref a_t, .int p1, .int p2] (w_Typed_append (cI := cI) (cJ := cJ) (cC := cC) (cZ := cZ) (cR := cR) a_t a_tc tt_length tt_ch) (fun (o : Option Value) (w : va_W) => o = some (.int o_r) ∧ w = w_Typed_append (cI := cI) (cJ := cJ) (cC := cC) (cZ := cZ) (cR := cR) a_t a_tc o_tt_length o_tt_ch) := by
  refine GM.of (by decide) (Nat.le_of_ble_eq_true rfl) (lv := [(0, .ref a_t), (1, .int p1), (2, .int p2)]) rfl ?_
  intro X hX C
  subst hX
  refine k_iload_n C d_Typed_append_0 rfl 2 rfl rfl ?_
  refine k_iconst C d_Typed_append_1 (v := (1 : Int32)) (by decide) rfl ?_
  refine k_icmp_lt (tgt := 24) C d_Typed_append_2 (by decide) rfl (fun c1 => ?_) (fun c1 => ?_)
  · replace h := gi_t h c1
    refine k_iconst C d_Typed_append_24 (v := (0 : Int32)) (by decide) rfl ?_
    have g2 := gd1 h
    replace h := gd2 h
    exact k_zret C d_Typed_append_25 (nz_bool g2) (tr1 h (fun t => (fun (o : Option Value) (w : va_W) => o = some (.int (t.1)) ∧ w = w_Typed_append (cI := cI) (cJ := cJ) (cC := cC) (cZ := cZ) (cR := cR) a_t a_tc (t.2.1) (t.2.2)) (some (Value.int (0 : Int32))) (w_Typed_append (cI := cI) (cJ := cJ) (cC := cC) (cZ := cZ) (cR := cR) a_t a_tc tt_length tt_ch)) ⟨rfl, rfl⟩)
  · replace h := gi_f h c1
    refine k_iload_n C d_Typed_append_5 rfl 2 rfl rfl ?_
    refine k_iconst C d_Typed_append_6 (v := (4 : Int32)) (by decide) rfl ?_
    refine k_icmp_gt (tgt := 24) C d_Typed_append_7 (by decide) rfl (fun c3 => ?_) (fun c3 => ?_)
    · replace h := gi_t h c3
      refine k_iconst C d_Typed_append_24 (v := (0 : Int32)) (by decide) rfl ?_
      have g4 := gd1 h
      replace h := gd2 h
      exact k_zret C d_Typed_append_25 (nz_bool g4) (tr1 h (fun t => (fun (o : Option Value) (w : va_W) => o = some (.int (t.1)) ∧ w = w_Typed_append (cI := cI) (cJ := cJ) (cC := cC) (cZ := cZ) (cR := cR) a_t a_tc (t.2.1) (t.2.2)) (some (Value.int (0 : Int32))) (w_Typed_append (cI := cI) (cJ := cJ) (cC := cC) (cZ := cZ) (cR := cR) a_t a_tc tt_length tt_ch)) ⟨rfl, rfl⟩)
    · replace h := gi_f h c3
      refine k_aload_n C d_Typed_append_10 rfl 0 rfl rfl ?_
      refine k_getf C d_Typed_append_11 hin_Typed rfl 1 (by decide) mw62 0 rfl rfl rfl ?_
      refine k_iload_n C d_Typed_append_14 rfl 2 rfl rfl ?_
      refine k_iadd C d_Typed_append_15 rfl ?_
      refine k_aload_n C d_Typed_append_16 rfl 0 rfl rfl ?_
      refine k_getf C d_Typed_append_17 hin_Typed rfl 0 (by decide) mw63 0 rfl rfl rfl ?_
      refine k_alen (z := (40 : Int32)) C d_Typed_append_20 1 2 rfl rfl rfl rfl ?_
      refine k_icmp_le (tgt := 26) C d_Typed_append_21 (by decide) rfl (fun c5 => ?_) (fun c5 => ?_)
      · replace h := gi_t h c5
        refine k_iconst C d_Typed_append_26 (v := (0 : Int32)) (by decide) rfl ?_
        refine k_istore_n (lv' := [(3, .int (0 : Int32)), (0, .ref a_t), (1, .int p1), (2, .int p2)]) C d_Typed_append_27 rfl (by decide) rfl rfl ?_
        have X28_0 : ∀ (l3_28 : Int32), (f_Typed_append_L66 p1 (fun l3_66 tt_length_66 tt_ch_66 => (if ((1 : Int32) = 0 ∨ (1 : Int32) = 1) then some ((1 : Int32), tt_length_66, tt_ch_66) else none)) fu (p2 - (1 : Int32)) tt_length tt_ch) = some (o_r, o_tt_length, o_tt_ch) → Wk X { frames := 1, cells := 0, slots := 0, locals := 21 } 5 D (va_A (w_Typed_append (cI := cI) (cJ := cJ) (cC := cC) (cZ := cZ) (cR := cR) a_t a_tc tt_length tt_ch) (xs X).heap.size) 0 0 (GE X D (w_Typed_append (cI := cI) (cJ := cJ) (cC := cC) (cZ := cZ) (cR := cR) a_t a_tc tt_length tt_ch) (fun (o : Option Value) (w : va_W) => o = some (.int o_r) ∧ w = w_Typed_append (cI := cI) (cJ := cJ) (cC := cC) (cZ := cZ) (cR := cR) a_t a_tc o_tt_length o_tt_ch) 0 0) (w_Typed_append (cI := cI) (cJ := cJ) (cC := cC) (cZ := cZ) (cR := cR) a_t a_tc tt_length tt_ch) [(3, .int l3_28), (0, .ref a_t), (1, .int p1), (2, .int p2)] [] 62 := by
          intro l3_28 h
          refine k_iload_n C d_Typed_append_62 rfl 3 rfl rfl ?_
          refine k_iconst C d_Typed_append_63 (v := (1 : Int32)) (by decide) rfl ?_
          refine k_isub C d_Typed_append_64 rfl ?_
          refine k_istore_n (lv' := [(3, .int (p2 - (1 : Int32))), (0, .ref a_t), (1, .int p1), (2, .int p2)]) C d_Typed_append_65 rfl (by decide) rfl rfl ?_
          have X66_0 : ∀ (l3_66 : Int32) (tt_length_66 : Int32) (tt_ch_66 : Nat → Int32), (if ((1 : Int32) = 0 ∨ (1 : Int32) = 1) then some ((1 : Int32), tt_length_66, tt_ch_66) else none) = some (o_r, o_tt_length, o_tt_ch) → Wk X { frames := 1, cells := 0, slots := 0, locals := 21 } 5 D (va_A (w_Typed_append (cI := cI) (cJ := cJ) (cC := cC) (cZ := cZ) (cR := cR) a_t a_tc tt_length tt_ch) (xs X).heap.size) 0 0 (GE X D (w_Typed_append (cI := cI) (cJ := cJ) (cC := cC) (cZ := cZ) (cR := cR) a_t a_tc tt_length tt_ch) (fun (o : Option Value) (w : va_W) => o = some (.int o_r) ∧ w = w_Typed_append (cI := cI) (cJ := cJ) (cC := cC) (cZ := cZ) (cR := cR) a_t a_tc o_tt_length o_tt_ch) 0 0) (w_Typed_append (cI := cI) (cJ := cJ) (cC := cC) (cZ := cZ) (cR := cR) a_t a_tc tt_length_66 tt_ch_66) [(3, .int l3_66), (0, .ref a_t), (1, .int p1), (2, .int p2)] [] 101 := by
            intro l3_66 tt_length_66 tt_ch_66 h
            refine k_iconst C d_Typed_append_101 (v := (1 : Int32)) (by decide) rfl ?_
            have g15 := gd1 h
            replace h := gd2 h
            exact k_zret C d_Typed_append_102 (nz_bool g15) (tr1 h (fun t => (fun (o : Option Value) (w : va_W) => o = some (.int (t.1)) ∧ w = w_Typed_append (cI := cI) (cJ := cJ) (cC := cC) (cZ := cZ) (cR := cR) a_t a_tc (t.2.1) (t.2.2)) (some (Value.int (1 : Int32))) (w_Typed_append (cI := cI) (cJ := cJ) (cC := cC) (cZ := cZ) (cR := cR) a_t a_tc tt_length_66 tt_ch_66)) ⟨rfl, rfl⟩)
          have L66 : ∀ (kk66_0 : Int32 → Int32 → (Nat → Int32) → Option (Int32 × Int32 × (Nat → Int32))) (hX66_0 : ∀ (l3_66 : Int32) (tt_length_66 : Int32) (tt_ch_66 : Nat → Int32), kk66_0 l3_66 tt_length_66 tt_ch_66 = some (o_r, o_tt_length, o_tt_ch) → Wk X { frames := 1, cells := 0, slots := 0, locals := 21 } 5 D (va_A (w_Typed_append (cI := cI) (cJ := cJ) (cC := cC) (cZ := cZ) (cR := cR) a_t a_tc tt_length tt_ch) (xs X).heap.size) 0 0 (GE X D (w_Typed_append (cI := cI) (cJ := cJ) (cC := cC) (cZ := cZ) (cR := cR) a_t a_tc tt_length tt_ch) (fun (o : Option Value) (w : va_W) => o = some (.int o_r) ∧ w = w_Typed_append (cI := cI) (cJ := cJ) (cC := cC) (cZ := cZ) (cR := cR) a_t a_tc o_tt_length o_tt_ch) 0 0) (w_Typed_append (cI := cI) (cJ := cJ) (cC := cC) (cZ := cZ) (cR := cR) a_t a_tc tt_length_66 tt_ch_66) [(3, .int l3_66), (0, .ref a_t), (1, .int p1), (2, .int p2)] [] 101) (n_66 : Nat) (l3_66 : Int32) (tt_length_66 : Int32) (tt_ch_66 : Nat → Int32), f_Typed_append_L66 p1 kk66_0 n_66 l3_66 tt_length_66 tt_ch_66 = some (o_r, o_tt_length, o_tt_ch) → Wk X { frames := 1, cells := 0, slots := 0, locals := 21 } 5 D (va_A (w_Typed_append (cI := cI) (cJ := cJ) (cC := cC) (cZ := cZ) (cR := cR) a_t a_tc tt_length tt_ch) (xs X).heap.size) 0 0 (GE X D (w_Typed_append (cI := cI) (cJ := cJ) (cC := cC) (cZ := cZ) (cR := cR) a_t a_tc tt_length tt_ch) (fun (o : Option Value) (w : va_W) => o = some (.int o_r) ∧ w = w_Typed_append (cI := cI) (cJ := cJ) (cC := cC) (cZ := cZ) (cR := cR) a_t a_tc o_tt_length o_tt_ch) 0 0) (w_Typed_append (cI := cI) (cJ := cJ) (cC := cC) (cZ := cZ) (cR := cR) a_t a_tc tt_length_66 tt_ch_66) [(3, .int l3_66), (0, .ref a_t), (1, .int p1), (2, .int p2)] [] 66 := by
            intro kk66_0 hX66_0 n_66
            induction n_66 with
            | zero =>
              intro l3_66 tt_length_66 tt_ch_66 h
              exact nS h
            | succ n_66 ih66 =>
              intro l3_66 tt_length_66 tt_ch_66 h
              replace h := (f_Typed_append_L66_s _ _ _ _ _ _).symm.trans h
              refine k_iload_n C d_Typed_append_66 rfl 0 rfl rfl ?_
              refine k_if_lt (tgt := 101) C d_Typed_append_67 (by decide) rfl (fun c11 => ?_) (fun c11 => ?_)
              · replace h := gi_t h c11
                exact hX66_0 l3_66 tt_length_66 tt_ch_66 h
              · replace h := gi_f h c11
                refine k_aload_n C d_Typed_append_70 rfl 1 rfl rfl ?_
                refine k_getf C d_Typed_append_71 hin_Typed rfl 0 (by decide) mw63 0 rfl rfl rfl ?_
                refine k_aload_n C d_Typed_append_74 rfl 1 rfl rfl ?_
                refine k_getf C d_Typed_append_75 hin_Typed rfl 1 (by decide) mw62 0 rfl rfl rfl ?_
                refine k_iload_n C d_Typed_append_78 rfl 2 rfl rfl ?_
                refine k_iload_n C d_Typed_append_79 rfl 0 rfl rfl ?_
                obtain ⟨r12, hc13, h⟩ := bd h
                refine k_callSd (As := [.int p1, .int l3_66]) (st := [.int tt_length_66, .ref a_tc]) (st' := [.int r12, .int tt_length_66, .ref a_tc]) (wn := w_Typed_append (cI := cI) (cJ := cJ) (cC := cC) (cZ := cZ) (cR := cR) a_t a_tc tt_length_66 tt_ch_66) C d_Typed_append_80 (c_Typed_byteOf fu p1 l3_66 r12 hc13) co_Typed_byteOf cos_Typed_byteOf mw64 (by decide) (by decide) (Nat.le_of_ble_eq_true rfl) rfl [] [0, 1] [0, 1] rfl (by decide +kernel) rfl (by decide +kernel) (by decide +kernel) rfl (by decide +kernel) rfl rfl ?_
                refine k_i2c C d_Typed_append_83 rfl ?_
                have g14 := gd1 h
                replace h := gd2 h
                refine k_cast (ws' := w_Typed_append (cI := cI) (cJ := cJ) (cC := cC) (cZ := cZ) (cR := cR) a_t a_tc tt_length_66 (upd tt_ch_66 tt_length_66.toNatClampNeg (vp_nar .char (ji2c r12)))) C d_Typed_append_84 1 2 rfl rfl (inB_in g14) rfl rfl ?_
                refine k_aload_n C d_Typed_append_85 rfl 1 rfl rfl ?_
                refine k_dup C d_Typed_append_86 rfl rfl ?_
                refine k_getf C d_Typed_append_87 hin_Typed rfl 1 (by decide) mw62 0 rfl rfl rfl ?_
                refine k_iconst C d_Typed_append_90 (v := (1 : Int32)) (by decide) rfl ?_
                refine k_iadd C d_Typed_append_91 rfl ?_
                refine k_putf (ws' := w_Typed_append (cI := cI) (cJ := cJ) (cC := cC) (cZ := cZ) (cR := cR) a_t a_tc (tt_length_66 + (1 : Int32)) (upd tt_ch_66 tt_length_66.toNatClampNeg (vp_nar .char (ji2c r12)))) C d_Typed_append_92 hin_Typed hty_Typed hnn_Typed rfl 1 (by decide) mw62 rfl 0 rfl rfl rfl (Nat.le_of_ble_eq_true rfl) rfl rfl ?_
                refine k_iinc (lv' := [(3, .int (l3_66 + (-1))), (0, .ref a_t), (1, .int p1), (2, .int p2)]) C d_Typed_append_95 0 rfl rfl (by decide) rfl rfl ?_
                refine k_goto (tgt := 66) C d_Typed_append_98 (by decide) ?_
                exact ih66 (l3_66 + (-1)) (tt_length_66 + (1 : Int32)) (upd tt_ch_66 tt_length_66.toNatClampNeg (vp_nar .char (ji2c r12))) h
          exact L66 (fun l3_66 tt_length_66 tt_ch_66 => (if ((1 : Int32) = 0 ∨ (1 : Int32) = 1) then some ((1 : Int32), tt_length_66, tt_ch_66) else none)) X66_0 fu (p2 - (1 : Int32)) tt_length tt_ch h
        have X28_1 : ∀ (l3_28 : Int32), (if ((0 : Int32) = 0 ∨ (0 : Int32) = 1) then some ((0 : Int32), tt_length, tt_ch) else none) = some (o_r, o_tt_length, o_tt_ch) → Wk X { frames := 1, cells := 0, slots := 0, locals := 21 } 5 D (va_A (w_Typed_append (cI := cI) (cJ := cJ) (cC := cC) (cZ := cZ) (cR := cR) a_t a_tc tt_length tt_ch) (xs X).heap.size) 0 0 (GE X D (w_Typed_append (cI := cI) (cJ := cJ) (cC := cC) (cZ := cZ) (cR := cR) a_t a_tc tt_length tt_ch) (fun (o : Option Value) (w : va_W) => o = some (.int o_r) ∧ w = w_Typed_append (cI := cI) (cJ := cJ) (cC := cC) (cZ := cZ) (cR := cR) a_t a_tc o_tt_length o_tt_ch) 0 0) (w_Typed_append (cI := cI) (cJ := cJ) (cC := cC) (cZ := cZ) (cR := cR) a_t a_tc tt_length tt_ch) [(3, .int l3_28), (0, .ref a_t), (1, .int p1), (2, .int p2)] [] 54 := by
          intro l3_28 h
          refine k_iconst C d_Typed_append_54 (v := (0 : Int32)) (by decide) rfl ?_
          have g16 := gd1 h
          replace h := gd2 h
          exact k_zret C d_Typed_append_55 (nz_bool g16) (tr1 h (fun t => (fun (o : Option Value) (w : va_W) => o = some (.int (t.1)) ∧ w = w_Typed_append (cI := cI) (cJ := cJ) (cC := cC) (cZ := cZ) (cR := cR) a_t a_tc (t.2.1) (t.2.2)) (some (Value.int (0 : Int32))) (w_Typed_append (cI := cI) (cJ := cJ) (cC := cC) (cZ := cZ) (cR := cR) a_t a_tc tt_length tt_ch)) ⟨rfl, rfl⟩)
        have L28 : ∀ (kk28_0 : Int32 → Option (Int32 × Int32 × (Nat → Int32))) (kk28_1 : Int32 → Option (Int32 × Int32 × (Nat → Int32))) (hX28_0 : ∀ (l3_28 : Int32), kk28_0 l3_28 = some (o_r, o_tt_length, o_tt_ch) → Wk X { frames := 1, cells := 0, slots := 0, locals := 21 } 5 D (va_A (w_Typed_append (cI := cI) (cJ := cJ) (cC := cC) (cZ := cZ) (cR := cR) a_t a_tc tt_length tt_ch) (xs X).heap.size) 0 0 (GE X D (w_Typed_append (cI := cI) (cJ := cJ) (cC := cC) (cZ := cZ) (cR := cR) a_t a_tc tt_length tt_ch) (fun (o : Option Value) (w : va_W) => o = some (.int o_r) ∧ w = w_Typed_append (cI := cI) (cJ := cJ) (cC := cC) (cZ := cZ) (cR := cR) a_t a_tc o_tt_length o_tt_ch) 0 0) (w_Typed_append (cI := cI) (cJ := cJ) (cC := cC) (cZ := cZ) (cR := cR) a_t a_tc tt_length tt_ch) [(3, .int l3_28), (0, .ref a_t), (1, .int p1), (2, .int p2)] [] 62) (hX28_1 : ∀ (l3_28 : Int32), kk28_1 l3_28 = some (o_r, o_tt_length, o_tt_ch) → Wk X { frames := 1, cells := 0, slots := 0, locals := 21 } 5 D (va_A (w_Typed_append (cI := cI) (cJ := cJ) (cC := cC) (cZ := cZ) (cR := cR) a_t a_tc tt_length tt_ch) (xs X).heap.size) 0 0 (GE X D (w_Typed_append (cI := cI) (cJ := cJ) (cC := cC) (cZ := cZ) (cR := cR) a_t a_tc tt_length tt_ch) (fun (o : Option Value) (w : va_W) => o = some (.int o_r) ∧ w = w_Typed_append (cI := cI) (cJ := cJ) (cC := cC) (cZ := cZ) (cR := cR) a_t a_tc o_tt_length o_tt_ch) 0 0) (w_Typed_append (cI := cI) (cJ := cJ) (cC := cC) (cZ := cZ) (cR := cR) a_t a_tc tt_length tt_ch) [(3, .int l3_28), (0, .ref a_t), (1, .int p1), (2, .int p2)] [] 54) (n_28 : Nat) (l3_28 : Int32), f_Typed_append_L28 p1 p2 kk28_0 kk28_1 n_28 l3_28 = some (o_r, o_tt_length, o_tt_ch) → Wk X { frames := 1, cells := 0, slots := 0, locals := 21 } 5 D (va_A (w_Typed_append (cI := cI) (cJ := cJ) (cC := cC) (cZ := cZ) (cR := cR) a_t a_tc tt_length tt_ch) (xs X).heap.size) 0 0 (GE X D (w_Typed_append (cI := cI) (cJ := cJ) (cC := cC) (cZ := cZ) (cR := cR) a_t a_tc tt_length tt_ch) (fun (o : Option Value) (w : va_W) => o = some (.int o_r) ∧ w = w_Typed_append (cI := cI) (cJ := cJ) (cC := cC) (cZ := cZ) (cR := cR) a_t a_tc o_tt_length o_tt_ch) 0 0) (w_Typed_append (cI := cI) (cJ := cJ) (cC := cC) (cZ := cZ) (cR := cR) a_t a_tc tt_length tt_ch) [(3, .int l3_28), (0, .ref a_t), (1, .int p1), (2, .int p2)] [] 28 := by
          intro kk28_0 kk28_1 hX28_0 hX28_1 n_28
          induction n_28 with
          | zero =>
            intro l3_28 h
            exact nS h
          | succ n_28 ih28 =>
            intro l3_28 h
            replace h := (f_Typed_append_L28_s _ _ _ _ _ _).symm.trans h
            refine k_iload_n C d_Typed_append_28 rfl 0 rfl rfl ?_
            refine k_iload_n C d_Typed_append_29 rfl 3 rfl rfl ?_
            refine k_icmp_ge (tgt := 62) C d_Typed_append_30 (by decide) rfl (fun c6 => ?_) (fun c6 => ?_)
            · replace h := gi_t h c6
              exact hX28_0 l3_28 h
            · replace h := gi_f h c6
              refine k_iload_n C d_Typed_append_33 rfl 2 rfl rfl ?_
              refine k_iload_n C d_Typed_append_34 rfl 0 rfl rfl ?_
              obtain ⟨r7, hc8, h⟩ := bd h
              refine k_callSd (As := [.int p1, .int l3_28]) (st := []) (st' := [.int r7]) (wn := w_Typed_append (cI := cI) (cJ := cJ) (cC := cC) (cZ := cZ) (cR := cR) a_t a_tc tt_length tt_ch) C d_Typed_append_35 (c_Typed_byteOf fu p1 l3_28 r7 hc8) co_Typed_byteOf cos_Typed_byteOf mw64 (by decide) (by decide) (Nat.le_of_ble_eq_true rfl) rfl [] [0, 1] [0, 1] rfl (by decide +kernel) rfl (by decide +kernel) (by decide +kernel) rfl (by decide +kernel) rfl rfl ?_
              refine k_istore (lv' := [(4, .int r7), (3, .int l3_28), (0, .ref a_t), (1, .int p1), (2, .int p2)]) C d_Typed_append_38 (by decide) rfl rfl ?_
              refine k_iload C d_Typed_append_40 0 rfl rfl ?_
              refine k_bipush C d_Typed_append_42 (v := (33 : Int32)) (by decide) rfl ?_
              refine k_icmp_lt (tgt := 54) C d_Typed_append_44 (by decide) rfl (fun c9 => ?_) (fun c9 => ?_)
              · replace h := gi_t h c9
                refine k_lpk [1, 2, 3, 4] rfl ?_
                exact hX28_1 l3_28 h
              · replace h := gi_f h c9
                refine k_iload C d_Typed_append_47 0 rfl rfl ?_
                refine k_bipush C d_Typed_append_49 (v := (126 : Int32)) (by decide) rfl ?_
                refine k_icmp_le (tgt := 56) C d_Typed_append_51 (by decide) rfl (fun c10 => ?_) (fun c10 => ?_)
                · replace h := gi_t h c10
                  refine k_iinc (lv' := [(3, .int (l3_28 + 1)), (4, .int r7), (0, .ref a_t), (1, .int p1), (2, .int p2)]) C d_Typed_append_56 1 rfl rfl (by decide) rfl rfl ?_
                  refine k_goto (tgt := 28) C d_Typed_append_59 (by decide) ?_
                  refine k_lpk [0, 2, 3, 4] rfl ?_
                  exact ih28 (l3_28 + 1) h
                · replace h := gi_f h c10
                  refine k_lpk [1, 2, 3, 4] rfl ?_
                  exact hX28_1 l3_28 h
        exact L28 (fun l3_28 => (f_Typed_append_L66 p1 (fun l3_66 tt_length_66 tt_ch_66 => (if ((1 : Int32) = 0 ∨ (1 : Int32) = 1) then some ((1 : Int32), tt_length_66, tt_ch_66) else none)) fu (p2 - (1 : Int32)) tt_length tt_ch)) (fun l3_28 => (if ((0 : Int32) = 0 ∨ (0 : Int32) = 1) then some ((0 : Int32), tt_length, tt_ch) else none)) X28_0 X28_1 fu (0 : Int32) h
      · replace h := gi_f h c5
        refine k_iconst C d_Typed_append_24 (v := (0 : Int32)) (by decide) rfl ?_
        have g17 := gd1 h
        replace h := gd2 h
        exact k_zret C d_Typed_append_25 (nz_bool g17) (tr1 h (fun t => (fun (o : Option Value) (w : va_W) => o = some (.int (t.1)) ∧ w = w_Typed_append (cI := cI) (cJ := cJ) (cC := cC) (cZ := cZ) (cR := cR) a_t a_tc (t.2.1) (t.2.2)) (some (Value.int (0 : Int32))) (w_Typed_append (cI := cI) (cJ := cJ) (cC := cC) (cZ := cZ) (cR := cR) a_t a_tc tt_length tt_ch)) ⟨rfl, rfl⟩)
theorem d_Typed_characterAt_0 : decode b_Typed_characterAt 0 = .ok (.iload_n 1, 1) := by decide +kernel
theorem d_Typed_characterAt_1 : decode b_Typed_characterAt 1 = .ok (.ifCond .lt 20, 3) := by decide +kernel
theorem d_Typed_characterAt_4 : decode b_Typed_characterAt 4 = .ok (.iload_n 1, 1) := by decide +kernel
theorem d_Typed_characterAt_5 : decode b_Typed_characterAt 5 = .ok (.aload_n 0, 1) := by decide +kernel
theorem d_Typed_characterAt_6 : decode b_Typed_characterAt 6 = .ok (.getfield 15, 3) := by decide +kernel
theorem d_Typed_characterAt_9 : decode b_Typed_characterAt 9 = .ok (.if_icmp .ge 12, 3) := by decide +kernel
theorem d_Typed_characterAt_12 : decode b_Typed_characterAt 12 = .ok (.aload_n 0, 1) := by decide +kernel
theorem d_Typed_characterAt_13 : decode b_Typed_characterAt 13 = .ok (.getfield 9, 3) := by decide +kernel
theorem d_Typed_characterAt_16 : decode b_Typed_characterAt 16 = .ok (.iload_n 1, 1) := by decide +kernel
theorem d_Typed_characterAt_17 : decode b_Typed_characterAt 17 = .ok (.caload, 1) := by decide +kernel
theorem d_Typed_characterAt_18 : decode b_Typed_characterAt 18 = .ok (.goto 4, 3) := by decide +kernel
theorem d_Typed_characterAt_21 : decode b_Typed_characterAt 21 = .ok (.iconst 0, 1) := by decide +kernel
theorem d_Typed_characterAt_22 : decode b_Typed_characterAt 22 = .ok (.ireturn, 1) := by decide +kernel
abbrev w_Typed_characterAt {cI cJ cC cZ cR : ClassId} (a_t a_tc : Nat) (tt_length : Int32) (tt_ch : Nat → Int32) : va_W := [(a_t, .inr (0, [.ref a_tc, .int tt_length])), (a_tc, .inl (cC, 40, .inl tt_ch))]
def f_Typed_characterAt (p1 : Int32) (tt_length : Int32) (tt_ch : Nat → Int32) : Option (Int32) := (if p1 < 0 then (if (ji2c (0 : Int32) = (0 : Int32)) then some (0 : Int32) else none) else (if tt_length ≤ p1 then (if (ji2c (0 : Int32) = (0 : Int32)) then some (0 : Int32) else none) else (if inB p1 40 = true then (if (ji2c (tt_ch p1.toNatClampNeg) = (tt_ch p1.toNatClampNeg)) then some (tt_ch p1.toNatClampNeg) else none) else none)))
set_option maxRecDepth 100000 in
set_option maxHeartbeats 4000000 in
theorem c_Typed_characterAt {l : Launch} {D : va_G} {cI cJ cC cZ cR : ClassId} (fu : Nat) (a_t a_tc : Nat)   (tt_length : Int32) (tt_ch : Nat → Int32) (p1 : Int32) (o_r : Int32) (h : f_Typed_characterAt p1 tt_length tt_ch = some o_r) : GM l D (tysL cI cJ cC cZ cR) y_Typed_characterAt b_Typed_characterAt 2 (some (.char)) { frames := 0, cells := 0, slots := 0, locals := 0 } [.ref a_t, .int p1] (w_Typed_characterAt (cI := cI) (cJ := cJ) (cC := cC) (cZ := cZ) (cR := cR) a_t a_tc tt_length tt_ch) (fun (o : Option Value) (w : va_W) => o = some (.int o_r) ∧ w = w_Typed_characterAt (cI := cI) (cJ := cJ) (cC := cC) (cZ := cZ) (cR := cR) a_t a_tc tt_length tt_ch) := by
  refine GM.of (by decide) (Nat.le_of_ble_eq_true rfl) (lv := [(0, .ref a_t), (1, .int p1)]) rfl ?_
  intro X hX C
  subst hX
  refine k_iload_n C d_Typed_characterAt_0 rfl 1 rfl rfl ?_
  refine k_if_lt (tgt := 21) C d_Typed_characterAt_1 (by decide) rfl (fun c1 => ?_) (fun c1 => ?_)
  · replace h := gi_t h c1
    refine k_iconst C d_Typed_characterAt_21 (v := (0 : Int32)) (by decide) rfl ?_
    have g2 := gd1 h
    replace h := gd2 h
    exact k_zret C d_Typed_characterAt_22 (nz_char g2) (tr1 h (fun t => (fun (o : Option Value) (w : va_W) => o = some (.int (t)) ∧ w = w_Typed_characterAt (cI := cI) (cJ := cJ) (cC := cC) (cZ := cZ) (cR := cR) a_t a_tc tt_length tt_ch) (some (Value.int (0 : Int32))) (w_Typed_characterAt (cI := cI) (cJ := cJ) (cC := cC) (cZ := cZ) (cR := cR) a_t a_tc tt_length tt_ch)) ⟨rfl, rfl⟩)
  · replace h := gi_f h c1
    refine k_iload_n C d_Typed_characterAt_4 rfl 1 rfl rfl ?_
    refine k_aload_n C d_Typed_characterAt_5 rfl 0 rfl rfl ?_
    refine k_getf C d_Typed_characterAt_6 hin_Typed rfl 1 (by decide) mw62 0 rfl rfl rfl ?_
    refine k_icmp_ge (tgt := 21) C d_Typed_characterAt_9 (by decide) rfl (fun c3 => ?_) (fun c3 => ?_)
    · replace h := gi_t h c3
      refine k_iconst C d_Typed_characterAt_21 (v := (0 : Int32)) (by decide) rfl ?_
      have g4 := gd1 h
      replace h := gd2 h
      exact k_zret C d_Typed_characterAt_22 (nz_char g4) (tr1 h (fun t => (fun (o : Option Value) (w : va_W) => o = some (.int (t)) ∧ w = w_Typed_characterAt (cI := cI) (cJ := cJ) (cC := cC) (cZ := cZ) (cR := cR) a_t a_tc tt_length tt_ch) (some (Value.int (0 : Int32))) (w_Typed_characterAt (cI := cI) (cJ := cJ) (cC := cC) (cZ := cZ) (cR := cR) a_t a_tc tt_length tt_ch)) ⟨rfl, rfl⟩)
    · replace h := gi_f h c3
      refine k_aload_n C d_Typed_characterAt_12 rfl 0 rfl rfl ?_
      refine k_getf C d_Typed_characterAt_13 hin_Typed rfl 0 (by decide) mw63 0 rfl rfl rfl ?_
      refine k_iload_n C d_Typed_characterAt_16 rfl 1 rfl rfl ?_
      have g5 := gd1 h
      replace h := gd2 h
      refine k_cald C d_Typed_characterAt_17 1 2 rfl rfl (inB_in g5) rfl ?_
      refine k_goto (tgt := 22) C d_Typed_characterAt_18 (by decide) ?_
      have g6 := gd1 h
      replace h := gd2 h
      exact k_zret C d_Typed_characterAt_22 (nz_char g6) (tr1 h (fun t => (fun (o : Option Value) (w : va_W) => o = some (.int (t)) ∧ w = w_Typed_characterAt (cI := cI) (cJ := cJ) (cC := cC) (cZ := cZ) (cR := cR) a_t a_tc tt_length tt_ch) (some (Value.int (tt_ch p1.toNatClampNeg))) (w_Typed_characterAt (cI := cI) (cJ := cJ) (cC := cC) (cZ := cZ) (cR := cR) a_t a_tc tt_length tt_ch)) ⟨rfl, rfl⟩)
theorem d_Typed_clear_0 : decode b_Typed_clear 0 = .ok (.aload_n 0, 1) := by decide +kernel
theorem d_Typed_clear_1 : decode b_Typed_clear 1 = .ok (.iconst 0, 1) := by decide +kernel
theorem d_Typed_clear_2 : decode b_Typed_clear 2 = .ok (.putfield 15, 3) := by decide +kernel
theorem d_Typed_clear_5 : decode b_Typed_clear 5 = .ok (.return_, 1) := by decide +kernel
abbrev w_Typed_clear {cI cJ cC cZ cR : ClassId} (a_t a_tc : Nat) (tt_length : Int32) : va_W := [(a_t, .inr (0, [.ref a_tc, .int tt_length]))]
def f_Typed_clear  : Option (Int32) := some (0 : Int32)
set_option maxRecDepth 100000 in
set_option maxHeartbeats 4000000 in
theorem c_Typed_clear {l : Launch} {D : va_G} {cI cJ cC cZ cR : ClassId} (fu : Nat) (a_t a_tc : Nat)   (tt_length : Int32)  (o_tt_length : Int32) (h : f_Typed_clear  = some o_tt_length) : GM l D (tysL cI cJ cC cZ cR) y_Typed_clear b_Typed_clear 1 none { frames := 0, cells := 0, slots := 0, locals := 0 } [.ref a_t] (w_Typed_clear (cI := cI) (cJ := cJ) (cC := cC) (cZ := cZ) (cR := cR) a_t a_tc tt_length) (fun (o : Option Value) (w : va_W) => o = none ∧ w = w_Typed_clear (cI := cI) (cJ := cJ) (cC := cC) (cZ := cZ) (cR := cR) a_t a_tc o_tt_length) := by
  refine GM.of (by decide) (Nat.le_of_ble_eq_true rfl) (lv := [(0, .ref a_t)]) rfl ?_
  intro X hX C
  subst hX
  refine k_aload_n C d_Typed_clear_0 rfl 0 rfl rfl ?_
  refine k_iconst C d_Typed_clear_1 (v := (0 : Int32)) (by decide) rfl ?_
  refine k_putf (ws' := w_Typed_clear (cI := cI) (cJ := cJ) (cC := cC) (cZ := cZ) (cR := cR) a_t a_tc (0 : Int32)) C d_Typed_clear_2 hin_Typed hty_Typed hnn_Typed rfl 1 (by decide) mw62 rfl 0 rfl rfl rfl (Nat.le_of_ble_eq_true rfl) rfl rfl ?_
  exact k_vret C d_Typed_clear_5 (tr1 h (fun t => (fun (o : Option Value) (w : va_W) => o = none ∧ w = w_Typed_clear (cI := cI) (cJ := cJ) (cC := cC) (cZ := cZ) (cR := cR) a_t a_tc (t)) none (w_Typed_clear (cI := cI) (cJ := cJ) (cC := cC) (cZ := cZ) (cR := cR) a_t a_tc (0 : Int32))) ⟨rfl, rfl⟩)
theorem d_G_symbolOf_0 : decode b_G_symbolOf 0 = .ok (.iload_n 0, 1) := by decide +kernel
theorem d_G_symbolOf_1 : decode b_G_symbolOf 1 = .ok (.bipush 33, 2) := by decide +kernel
theorem d_G_symbolOf_3 : decode b_G_symbolOf 3 = .ok (.if_icmp .lt 9, 3) := by decide +kernel
theorem d_G_symbolOf_6 : decode b_G_symbolOf 6 = .ok (.iload_n 0, 1) := by decide +kernel
theorem d_G_symbolOf_7 : decode b_G_symbolOf 7 = .ok (.bipush 126, 2) := by decide +kernel
theorem d_G_symbolOf_9 : decode b_G_symbolOf 9 = .ok (.if_icmp .le 7, 3) := by decide +kernel
theorem d_G_symbolOf_12 : decode b_G_symbolOf 12 = .ok (.iconst 0, 1) := by decide +kernel
theorem d_G_symbolOf_13 : decode b_G_symbolOf 13 = .ok (.goto 9, 3) := by decide +kernel
theorem d_G_symbolOf_16 : decode b_G_symbolOf 16 = .ok (.iload_n 0, 1) := by decide +kernel
theorem d_G_symbolOf_17 : decode b_G_symbolOf 17 = .ok (.bipush 33, 2) := by decide +kernel
theorem d_G_symbolOf_19 : decode b_G_symbolOf 19 = .ok (.isub, 1) := by decide +kernel
theorem d_G_symbolOf_20 : decode b_G_symbolOf 20 = .ok (.iconst 1, 1) := by decide +kernel
theorem d_G_symbolOf_21 : decode b_G_symbolOf 21 = .ok (.iadd, 1) := by decide +kernel
theorem d_G_symbolOf_22 : decode b_G_symbolOf 22 = .ok (.ireturn, 1) := by decide +kernel
abbrev w_G_symbolOf : va_W := []
def f_G_symbolOf (p0 : Int32) : Option (Int32) := (if p0 < (33 : Int32) then some (0 : Int32) else (if p0 ≤ (126 : Int32) then some ((p0 - (33 : Int32)) + (1 : Int32)) else some (0 : Int32)))
set_option maxRecDepth 100000 in
set_option maxHeartbeats 4000000 in
theorem c_G_symbolOf {l : Launch} {D : va_G} {cI cJ cC cZ cR : ClassId} (fu : Nat)     (p0 : Int32) (o_r : Int32) (h : f_G_symbolOf p0 = some o_r) : GM l D (tysL cI cJ cC cZ cR) y_G_symbolOf b_G_symbolOf 1 (some (.int)) { frames := 0, cells := 0, slots := 0, locals := 0 } [.int p0] (w_G_symbolOf) (fun (o : Option Value) (w : va_W) => o = some (.int o_r) ∧ w = w_G_symbolOf) := by
  refine GM.of (by decide) (Nat.le_of_ble_eq_true rfl) (lv := [(0, .int p0)]) rfl ?_
  intro X hX C
  subst hX
  refine k_iload_n C d_G_symbolOf_0 rfl 0 rfl rfl ?_
  refine k_bipush C d_G_symbolOf_1 (v := (33 : Int32)) (by decide) rfl ?_
  refine k_icmp_lt (tgt := 12) C d_G_symbolOf_3 (by decide) rfl (fun c1 => ?_) (fun c1 => ?_)
  · replace h := gi_t h c1
    refine k_iconst C d_G_symbolOf_12 (v := (0 : Int32)) (by decide) rfl ?_
    refine k_goto (tgt := 22) C d_G_symbolOf_13 (by decide) ?_
    exact k_iret C d_G_symbolOf_22 (tr1 h (fun t => (fun (o : Option Value) (w : va_W) => o = some (.int (t)) ∧ w = w_G_symbolOf) (some (Value.int (0 : Int32))) (w_G_symbolOf)) ⟨rfl, rfl⟩)
  · replace h := gi_f h c1
    refine k_iload_n C d_G_symbolOf_6 rfl 0 rfl rfl ?_
    refine k_bipush C d_G_symbolOf_7 (v := (126 : Int32)) (by decide) rfl ?_
    refine k_icmp_le (tgt := 16) C d_G_symbolOf_9 (by decide) rfl (fun c2 => ?_) (fun c2 => ?_)
    · replace h := gi_t h c2
      refine k_iload_n C d_G_symbolOf_16 rfl 0 rfl rfl ?_
      refine k_bipush C d_G_symbolOf_17 (v := (33 : Int32)) (by decide) rfl ?_
      refine k_isub C d_G_symbolOf_19 rfl ?_
      refine k_iconst C d_G_symbolOf_20 (v := (1 : Int32)) (by decide) rfl ?_
      refine k_iadd C d_G_symbolOf_21 rfl ?_
      exact k_iret C d_G_symbolOf_22 (tr1 h (fun t => (fun (o : Option Value) (w : va_W) => o = some (.int (t)) ∧ w = w_G_symbolOf) (some (Value.int ((p0 - (33 : Int32)) + (1 : Int32)))) (w_G_symbolOf)) ⟨rfl, rfl⟩)
    · replace h := gi_f h c2
      refine k_iconst C d_G_symbolOf_12 (v := (0 : Int32)) (by decide) rfl ?_
      refine k_goto (tgt := 22) C d_G_symbolOf_13 (by decide) ?_
      exact k_iret C d_G_symbolOf_22 (tr1 h (fun t => (fun (o : Option Value) (w : va_W) => o = some (.int (t)) ∧ w = w_G_symbolOf) (some (Value.int (0 : Int32))) (w_G_symbolOf)) ⟨rfl, rfl⟩)
