theorem dX5_init_0 : decode cX5_init 0 = .ok (.aload_n 0, 1) := by decide +kernel
theorem dX5_init_1 : decode cX5_init 1 = .ok (.invokespecial 3, 3) := by decide +kernel
theorem dX5_init_4 : decode cX5_init 4 = .ok (.aload_n 0, 1) := by decide +kernel
theorem dX5_init_5 : decode cX5_init 5 = .ok (.bipush 8, 2) := by decide +kernel
theorem dX5_init_7 : decode cX5_init 7 = .ok (.newarray .int, 2) := by decide +kernel
theorem dX5_init_9 : decode cX5_init 9 = .ok (.putfield 9, 3) := by decide +kernel
theorem dX5_init_12 : decode cX5_init 12 = .ok (.aload_n 0, 1) := by decide +kernel
theorem dX5_init_13 : decode cX5_init 13 = .ok (.bipush 8, 2) := by decide +kernel
theorem dX5_init_15 : decode cX5_init 15 = .ok (.newarray .long, 2) := by decide +kernel
theorem dX5_init_17 : decode cX5_init 17 = .ok (.putfield 15, 3) := by decide +kernel
theorem dX5_init_20 : decode cX5_init 20 = .ok (.aload_n 0, 1) := by decide +kernel
theorem dX5_init_21 : decode cX5_init 21 = .ok (.sipush 5001, 3) := by decide +kernel
theorem dX5_init_24 : decode cX5_init 24 = .ok (.newarray .long, 2) := by decide +kernel
theorem dX5_init_26 : decode cX5_init 26 = .ok (.putfield 19, 3) := by decide +kernel
theorem dX5_init_29 : decode cX5_init 29 = .ok (.aload_n 0, 1) := by decide +kernel
theorem dX5_init_30 : decode cX5_init 30 = .ok (.new 22, 3) := by decide +kernel
theorem dX5_init_33 : decode cX5_init 33 = .ok (.dup, 1) := by decide +kernel
theorem dX5_init_34 : decode cX5_init 34 = .ok (.bipush 8, 2) := by decide +kernel
theorem dX5_init_36 : decode cX5_init 36 = .ok (.invokespecial 24, 3) := by decide +kernel
theorem dX5_init_39 : decode cX5_init 39 = .ok (.putfield 27, 3) := by decide +kernel
theorem dX5_init_42 : decode cX5_init 42 = .ok (.return_, 1) := by decide +kernel
def fn_X5_init (N : Nat) (M : Mem) (a0 : Nat) : Option (Unit × Mem) :=
  mm_b2 (mm_nA M 8 8 (fun N => .inl (0, N, .inl (fun _ => 0)))) fun b1 M2 =>
  (mm_pV M2 a0 5 0 (.ref b1)).bind fun M3 =>
  mm_b2 (mm_nA M3 8 8 (fun N => .inl (1, N, .inr (.inl (fun _ => 0))))) fun b4 M5 =>
  (mm_pV M5 a0 5 1 (.ref b4)).bind fun M6 =>
  mm_b2 (mm_nA M6 5001 5001 (fun N => .inl (1, N, .inr (.inl (fun _ => 0))))) fun b7 M8 =>
  (mm_pV M8 a0 5 2 (.ref b7)).bind fun M9 =>
  mm_nm M9.length (M9 ++ [.inr (6, [.null, .int 0])]) fun b10 M11 =>
  mm_b2 (fn_X6_init N M11 b10 8) fun _ M12 =>
  (mm_pV M12 a0 5 4 (.ref b10)).bind fun M13 =>
  some ((), M13)
set_option maxRecDepth 100000 in
set_option maxHeartbeats 4000000 in
theorem ct_X5_init {l : Launch} {ω : Wd} {N : Nat} {M : Mem} {a0 : Nat} {r : Unit} {M' : Mem} (h : fn_X5_init N M a0 = some (r, M')) : CM l ω 0 yX5_init cX5_init 1 none 2 5 5079 [.ref a0] M none M' := by
  refine CM.of (by decide) (Nat.le_of_ble_eq_true rfl) fun Γ hl C hr hi => ?_
  subst hl
  unfold fn_X5_init at h
  refine jv_aload_n C dX5_init_0 rfl 0 rfl ?_
  refine jv_objInit C gw_718 gw_129 gw_130 (Nat.le_of_ble_eq_true rfl) dX5_init_1 ?_
  refine jv_aload_n C dX5_init_4 rfl 0 rfl ?_
  refine jv_bipush (v := 8) C dX5_init_5 (by decide) ?_
  refine jv_newa0 (lim := 8) C gw_200 (by decide) (by decide) (by decide) dX5_init_7 h (fun b1 M2 h => ?_)
  refine jv_putFR C fp_X5_9 hi dX5_init_9 (fun _ => ⟨rfl, rfl⟩) h (fun M3 h => ?_)
  refine jv_aload_n C dX5_init_12 rfl 0 rfl ?_
  refine jv_bipush (v := 8) C dX5_init_13 (by decide) ?_
  refine jv_newa1 (lim := 8) C gw_738 (by decide) (by decide) (by decide) dX5_init_15 h (fun b4 M5 h => ?_)
  refine jv_putFR C fp_X5_15 hi dX5_init_17 (fun _ => ⟨rfl, rfl⟩) h (fun M6 h => ?_)
  refine jv_aload_n C dX5_init_20 rfl 0 rfl ?_
  refine jv_sipush (v := 5001) C dX5_init_21 (by decide) ?_
  refine jv_newa1 (lim := 5001) C gw_738 (by decide) (by decide) (by decide) dX5_init_24 h (fun b7 M8 h => ?_)
  refine jv_putFR C fp_X5_19 hi dX5_init_26 (fun _ => ⟨rfl, rfl⟩) h (fun M9 h => ?_)
  refine jv_aload_n C dX5_init_29 rfl 0 rfl ?_
  refine jv_new (ci := 6) (fs := [.null, .int 0]) (tf := tyX6) C rfl uw_X6 tyX6_ok gw_719 gw_180 gw_97 (fun j hj => nd_X6 ω j hj) (by decide) (by decide) dX5_init_30 ?_
  refine jv_name h (fun b10 M11 h => ?_)
  refine jv_dup C dX5_init_33 rfl ?_
  refine jv_bipush (v := 8) C dX5_init_34 (by decide) ?_
  refine jv_iV (As := [.int 8]) C lk_X5_24 dX5_init_36 rfl rfl (by decide) (by decide) (by decide) (Nat.le_of_ble_eq_true rfl) h (fun _ _ h => ct_X6_init h) (fun _ M12 h => ?_)
  refine jv_putFR C fp_X5_27 hi dX5_init_39 (fun _ => ⟨rfl, rfl⟩) h (fun M13 h => ?_)
  exact jv_vret C hr dX5_init_42 h
theorem dX5_weighPacket_0 : decode cX5_weighPacket 0 = .ok (.iload 4, 2) := by decide +kernel
theorem dX5_weighPacket_2 : decode cX5_weighPacket 2 = .ok (.sipush 5000, 3) := by decide +kernel
theorem dX5_weighPacket_5 : decode cX5_weighPacket 5 = .ok (.invokestatic 59, 3) := by decide +kernel
theorem dX5_weighPacket_8 : decode cX5_weighPacket 8 = .ok (.istore 5, 2) := by decide +kernel
theorem dX5_weighPacket_10 : decode cX5_weighPacket 10 = .ok (.iload 5, 2) := by decide +kernel
theorem dX5_weighPacket_12 : decode cX5_weighPacket 12 = .ok (.iload_n 1, 1) := by decide +kernel
theorem dX5_weighPacket_13 : decode cX5_weighPacket 13 = .ok (.if_icmp .lt 73, 3) := by decide +kernel
theorem dX5_weighPacket_16 : decode cX5_weighPacket 16 = .ok (.iload_n 1, 1) := by decide +kernel
theorem dX5_weighPacket_17 : decode cX5_weighPacket 17 = .ok (.ifCond .le 69, 3) := by decide +kernel
theorem dX5_weighPacket_20 : decode cX5_weighPacket 20 = .ok (.aload_n 0, 1) := by decide +kernel
theorem dX5_weighPacket_21 : decode cX5_weighPacket 21 = .ok (.getfield 19, 3) := by decide +kernel
theorem dX5_weighPacket_24 : decode cX5_weighPacket 24 = .ok (.iload 5, 2) := by decide +kernel
theorem dX5_weighPacket_26 : decode cX5_weighPacket 26 = .ok (.iload_n 1, 1) := by decide +kernel
theorem dX5_weighPacket_27 : decode cX5_weighPacket 27 = .ok (.isub, 1) := by decide +kernel
theorem dX5_weighPacket_28 : decode cX5_weighPacket 28 = .ok (.laload, 1) := by decide +kernel
theorem dX5_weighPacket_29 : decode cX5_weighPacket 29 = .ok (.lstore 6, 2) := by decide +kernel
theorem dX5_weighPacket_31 : decode cX5_weighPacket 31 = .ok (.lload 6, 2) := by decide +kernel
theorem dX5_weighPacket_33 : decode cX5_weighPacket 33 = .ok (.ldc2_w 54, 3) := by decide +kernel
theorem dX5_weighPacket_36 : decode cX5_weighPacket 36 = .ok (.lcmp, 1) := by decide +kernel
theorem dX5_weighPacket_37 : decode cX5_weighPacket 37 = .ok (.ifCond .eq 43, 3) := by decide +kernel
theorem dX5_weighPacket_40 : decode cX5_weighPacket 40 = .ok (.aload_n 0, 1) := by decide +kernel
theorem dX5_weighPacket_41 : decode cX5_weighPacket 41 = .ok (.getfield 19, 3) := by decide +kernel
theorem dX5_weighPacket_44 : decode cX5_weighPacket 44 = .ok (.iload 5, 2) := by decide +kernel
theorem dX5_weighPacket_46 : decode cX5_weighPacket 46 = .ok (.laload, 1) := by decide +kernel
theorem dX5_weighPacket_47 : decode cX5_weighPacket 47 = .ok (.ldc2_w 54, 3) := by decide +kernel
theorem dX5_weighPacket_50 : decode cX5_weighPacket 50 = .ok (.lcmp, 1) := by decide +kernel
theorem dX5_weighPacket_51 : decode cX5_weighPacket 51 = .ok (.ifCond .eq 18, 3) := by decide +kernel
theorem dX5_weighPacket_54 : decode cX5_weighPacket 54 = .ok (.lload 6, 2) := by decide +kernel
theorem dX5_weighPacket_56 : decode cX5_weighPacket 56 = .ok (.lload_n 2, 1) := by decide +kernel
theorem dX5_weighPacket_57 : decode cX5_weighPacket 57 = .ok (.ladd, 1) := by decide +kernel
theorem dX5_weighPacket_58 : decode cX5_weighPacket 58 = .ok (.aload_n 0, 1) := by decide +kernel
theorem dX5_weighPacket_59 : decode cX5_weighPacket 59 = .ok (.getfield 19, 3) := by decide +kernel
theorem dX5_weighPacket_62 : decode cX5_weighPacket 62 = .ok (.iload 5, 2) := by decide +kernel
theorem dX5_weighPacket_64 : decode cX5_weighPacket 64 = .ok (.laload, 1) := by decide +kernel
theorem dX5_weighPacket_65 : decode cX5_weighPacket 65 = .ok (.lcmp, 1) := by decide +kernel
theorem dX5_weighPacket_66 : decode cX5_weighPacket 66 = .ok (.ifCond .ge 14, 3) := by decide +kernel
theorem dX5_weighPacket_69 : decode cX5_weighPacket 69 = .ok (.aload_n 0, 1) := by decide +kernel
theorem dX5_weighPacket_70 : decode cX5_weighPacket 70 = .ok (.getfield 19, 3) := by decide +kernel
theorem dX5_weighPacket_73 : decode cX5_weighPacket 73 = .ok (.iload 5, 2) := by decide +kernel
theorem dX5_weighPacket_75 : decode cX5_weighPacket 75 = .ok (.lload 6, 2) := by decide +kernel
theorem dX5_weighPacket_77 : decode cX5_weighPacket 77 = .ok (.lload_n 2, 1) := by decide +kernel
theorem dX5_weighPacket_78 : decode cX5_weighPacket 78 = .ok (.ladd, 1) := by decide +kernel
theorem dX5_weighPacket_79 : decode cX5_weighPacket 79 = .ok (.lastore, 1) := by decide +kernel
theorem dX5_weighPacket_80 : decode cX5_weighPacket 80 = .ok (.iinc 5 (-1), 3) := by decide +kernel
theorem dX5_weighPacket_83 : decode cX5_weighPacket 83 = .ok (.goto (-73), 3) := by decide +kernel
theorem dX5_weighPacket_86 : decode cX5_weighPacket 86 = .ok (.return_, 1) := by decide +kernel
def fn_X5_weighPacket_80 (N : Nat) (K10 : Mem → Nat → Int32 → Int64 → Int32 → Option (Unit × Mem)) (M : Mem) (a0 : Nat) (x1 : Int32) (y2 : Int64) (x5 : Int32) : Option (Unit × Mem) :=
  K10 M a0 x1 y2 ((x5 + (-1)))
set_option maxRecDepth 100000 in
set_option maxHeartbeats 4000000 in
theorem bk_X5_weighPacket_80 {Γ : Gm} {ω : Wd} {k N : Nat} {r : Unit} {M' : Mem} (C : Cx Γ cX5_weighPacket 8 RX5 ω 1 0 0) (hr : Γ.meth.sig.returnType = none) {K10 : Mem → Nat → Int32 → Int64 → Int32 → Option (Unit × Mem)} (hK10 : ∀ (M : Mem) (a0 : Nat) (x1 : Int32) (y2 : Int64) (x5 : Int32), K10 M a0 x1 y2 x5 = some (r, M') → JJ Γ (QF Γ ω k 0 0 none M') 8 ω k M 0 0 10 [(0, .ref a0), (1, .int x1), (2, .long y2), (5, .int x5)] []) (M : Mem) (a0 : Nat) (x1 : Int32) (y2 : Int64) (x5 : Int32) (h : fn_X5_weighPacket_80 N K10 M a0 x1 y2 x5 = some (r, M')) : JJ Γ (QF Γ ω k 0 0 none M') 8 ω k M 0 0 80 [(0, .ref a0), (1, .int x1), (2, .long y2), (5, .int x5)] [] := by
  unfold fn_X5_weighPacket_80 at h
  refine jv_iinc (v := (-1)) (lv' := [(5, .int (x5 + (-1))), (0, .ref a0), (1, .int x1), (2, .long y2)]) C dX5_weighPacket_80 3 rfl (by decide) (by decide) rfl ?_
  refine jv_goto (tgt := 10) C dX5_weighPacket_83 (by decide) ?_
  refine jv_sub [1, 2, 3, 0] rfl ?_
  exact hK10 _ _ _ _ _ h
def fn_X5_weighPacket_69 (N : Nat) (K10 : Mem → Nat → Int32 → Int64 → Int32 → Option (Unit × Mem)) (M : Mem) (a0 : Nat) (x1 : Int32) (y2 : Int64) (x5 : Int32) (y6 : Int64) : Option (Unit × Mem) :=
  (mm_gR M a0 5 2).bind fun b1 =>
  (mm_sL M b1 x5 (y6 + y2)).bind fun M2 =>
  fn_X5_weighPacket_80 N K10 M2 a0 x1 y2 x5
set_option maxRecDepth 100000 in
set_option maxHeartbeats 4000000 in
theorem bk_X5_weighPacket_69 {Γ : Gm} {ω : Wd} {k N : Nat} {r : Unit} {M' : Mem} (C : Cx Γ cX5_weighPacket 8 RX5 ω 1 0 0) (hr : Γ.meth.sig.returnType = none) {K10 : Mem → Nat → Int32 → Int64 → Int32 → Option (Unit × Mem)} (hK10 : ∀ (M : Mem) (a0 : Nat) (x1 : Int32) (y2 : Int64) (x5 : Int32), K10 M a0 x1 y2 x5 = some (r, M') → JJ Γ (QF Γ ω k 0 0 none M') 8 ω k M 0 0 10 [(0, .ref a0), (1, .int x1), (2, .long y2), (5, .int x5)] []) (M : Mem) (a0 : Nat) (x1 : Int32) (y2 : Int64) (x5 : Int32) (y6 : Int64) (h : fn_X5_weighPacket_69 N K10 M a0 x1 y2 x5 y6 = some (r, M')) : JJ Γ (QF Γ ω k 0 0 none M') 8 ω k M 0 0 69 [(0, .ref a0), (1, .int x1), (2, .long y2), (5, .int x5), (6, .long y6)] [] := by
  unfold fn_X5_weighPacket_69 at h
  refine jv_aload_n C dX5_weighPacket_69 rfl 0 rfl ?_
  refine jv_getR C fa_X5_19 dX5_weighPacket_70 h (fun b1 h => ?_)
  refine jv_iload C dX5_weighPacket_73 3 rfl ?_
  refine jv_lload C dX5_weighPacket_75 4 rfl ?_
  refine jv_lload_n C dX5_weighPacket_77 rfl 2 rfl ?_
  refine jv_ladd C dX5_weighPacket_78 ?_
  refine jv_last C dX5_weighPacket_79 h (fun M2 h => ?_)
  refine jv_sub [0, 1, 2, 3] rfl ?_
  exact bk_X5_weighPacket_80 C hr hK10 _ _ _ _ _ h
def fn_X5_weighPacket_10 (N : Nat) : Nat → Mem → Nat → Int32 → Int64 → Int32 → Option (Unit × Mem)
  | 0, _, _, _, _, _ => none
  | n + 1, M, a0, x1, y2, x5 =>
    if x5 < x1 then
      some ((), M)
    else
      if x1 ≤ 0 then
        some ((), M)
      else
        (mm_gR M a0 5 2).bind fun b1 =>
        (mm_aL M b1 (x5 - x1)).bind fun v2 =>
        if (lg_cmp v2 (-1)) = 0 then
          fn_X5_weighPacket_80 N (fn_X5_weighPacket_10 N n) M a0 x1 y2 x5
        else
          (mm_gR M a0 5 2).bind fun b3 =>
          (mm_aL M b3 x5).bind fun v4 =>
          if (lg_cmp v4 (-1)) = 0 then
            fn_X5_weighPacket_69 N (fn_X5_weighPacket_10 N n) M a0 x1 y2 x5 v2
          else
            (mm_gR M a0 5 2).bind fun b5 =>
            (mm_aL M b5 x5).bind fun v6 =>
            if 0 ≤ (lg_cmp (v2 + y2) v6) then
              fn_X5_weighPacket_80 N (fn_X5_weighPacket_10 N n) M a0 x1 y2 x5
            else
              fn_X5_weighPacket_69 N (fn_X5_weighPacket_10 N n) M a0 x1 y2 x5 v2
set_option maxRecDepth 100000 in
set_option maxHeartbeats 4000000 in
theorem bk_X5_weighPacket_10 {Γ : Gm} {ω : Wd} {k N : Nat} {r : Unit} {M' : Mem} (C : Cx Γ cX5_weighPacket 8 RX5 ω 1 0 0) (hr : Γ.meth.sig.returnType = none) : ∀ (n : Nat) (M : Mem) (a0 : Nat) (x1 : Int32) (y2 : Int64) (x5 : Int32), fn_X5_weighPacket_10 N n M a0 x1 y2 x5 = some (r, M') → JJ Γ (QF Γ ω k 0 0 none M') 8 ω k M 0 0 10 [(0, .ref a0), (1, .int x1), (2, .long y2), (5, .int x5)] [] := by
  intro n
  induction n with
  | zero => intro M a0 x1 y2 x5 h; exact jv_no h
  | succ n ih =>
    intro M a0 x1 y2 x5 h
    rw [fn_X5_weighPacket_10.eq_2] at h
    refine jv_iload C dX5_weighPacket_10 3 rfl ?_
    refine jv_iload_n C dX5_weighPacket_12 rfl 1 rfl ?_
    refine jv_icmp_lt (tgt := 86) C dX5_weighPacket_13 (by decide) h (fun h => ?_) (fun h => ?_)
    · exact jv_vret C hr dX5_weighPacket_86 h
    · refine jv_iload_n C dX5_weighPacket_16 rfl 1 rfl ?_
      refine jv_if_le (tgt := 86) C dX5_weighPacket_17 (by decide) h (fun h => ?_) (fun h => ?_)
      · exact jv_vret C hr dX5_weighPacket_86 h
      · refine jv_aload_n C dX5_weighPacket_20 rfl 0 rfl ?_
        refine jv_getR C fa_X5_19 dX5_weighPacket_21 h (fun b1 h => ?_)
        refine jv_iload C dX5_weighPacket_24 3 rfl ?_
        refine jv_iload_n C dX5_weighPacket_26 rfl 1 rfl ?_
        refine jv_isub C dX5_weighPacket_27 ?_
        refine jv_lald C dX5_weighPacket_28 h (fun v2 h => ?_)
        refine jv_lstore (lv' := [(6, .long v2), (0, .ref a0), (1, .int x1), (2, .long y2), (5, .int x5)]) C dX5_weighPacket_29 (by decide) rfl ?_
        refine jv_lload C dX5_weighPacket_31 0 rfl ?_
        refine jv_ldc2 C gw_1120 dX5_weighPacket_33 ?_
        refine jv_lcmp C dX5_weighPacket_36 ?_
        refine jv_if_eq (tgt := 80) C dX5_weighPacket_37 (by decide) h (fun h => ?_) (fun h => ?_)
        · refine jv_sub [1, 2, 3, 4] rfl ?_
          exact bk_X5_weighPacket_80 C hr ih _ _ _ _ _ h
        · refine jv_aload_n C dX5_weighPacket_40 rfl 1 rfl ?_
          refine jv_getR C fa_X5_19 dX5_weighPacket_41 h (fun b3 h => ?_)
          refine jv_iload C dX5_weighPacket_44 4 rfl ?_
          refine jv_lald C dX5_weighPacket_46 h (fun v4 h => ?_)
          refine jv_ldc2 C gw_1120 dX5_weighPacket_47 ?_
          refine jv_lcmp C dX5_weighPacket_50 ?_
          refine jv_if_eq (tgt := 69) C dX5_weighPacket_51 (by decide) h (fun h => ?_) (fun h => ?_)
          · refine jv_sub [1, 2, 3, 4, 0] rfl ?_
            exact bk_X5_weighPacket_69 C hr ih _ _ _ _ _ _ h
          · refine jv_lload C dX5_weighPacket_54 0 rfl ?_
            refine jv_lload_n C dX5_weighPacket_56 rfl 3 rfl ?_
            refine jv_ladd C dX5_weighPacket_57 ?_
            refine jv_aload_n C dX5_weighPacket_58 rfl 1 rfl ?_
            refine jv_getR C fa_X5_19 dX5_weighPacket_59 h (fun b5 h => ?_)
            refine jv_iload C dX5_weighPacket_62 4 rfl ?_
            refine jv_lald C dX5_weighPacket_64 h (fun v6 h => ?_)
            refine jv_lcmp C dX5_weighPacket_65 ?_
            refine jv_if_ge (tgt := 80) C dX5_weighPacket_66 (by decide) h (fun h => ?_) (fun h => ?_)
            · refine jv_sub [1, 2, 3, 4] rfl ?_
              exact bk_X5_weighPacket_80 C hr ih _ _ _ _ _ h
            · refine jv_sub [1, 2, 3, 4, 0] rfl ?_
              exact bk_X5_weighPacket_69 C hr ih _ _ _ _ _ _ h
def fn_X5_weighPacket (N : Nat) (M : Mem) (a0 : Nat) (x1 : Int32) (y2 : Int64) (x4 : Int32) : Option (Unit × Mem) :=
  mm_lt (if 5000 < x4 then 5000 else x4) fun v1 =>
  fn_X5_weighPacket_10 N N M a0 x1 y2 v1
set_option maxRecDepth 100000 in
set_option maxHeartbeats 4000000 in
theorem ct_X5_weighPacket {l : Launch} {ω : Wd} {k N : Nat} {M : Mem} {a0 : Nat} {x1 : Int32} {y2 : Int64} {x4 : Int32} {r : Unit} {M' : Mem} (h : fn_X5_weighPacket N M a0 x1 y2 x4 = some (r, M')) : CM l ω k yX5_weighPacket cX5_weighPacket 8 none 1 0 0 [.ref a0, .int x1, .long y2, .int x4] M none M' := by
  refine CM.of (by decide) (Nat.le_of_ble_eq_true rfl) fun Γ hl C hr hi => ?_
  subst hl
  unfold fn_X5_weighPacket at h
  refine jv_iload C dX5_weighPacket_0 3 rfl ?_
  refine jv_sipush (v := 5000) C dX5_weighPacket_2 (by decide) ?_
  refine jv_mmin C gw_1124 gw_280 gw_98 gw_281 (by decide) (by decide) (Nat.le_of_ble_eq_true rfl) dX5_weighPacket_5 ?_
  refine jv_nameI h (fun v1 h => ?_)
  refine jv_istore (lv' := [(5, .int v1), (0, .ref a0), (1, .int x1), (2, .long y2), (4, .int x4)]) C dX5_weighPacket_8 (by decide) rfl ?_
  refine jv_sub [1, 2, 3, 0] rfl ?_
  exact bk_X5_weighPacket_10 C hr _ _ _ _ _ _ h
theorem dX5_weighType_0 : decode cX5_weighType 0 = .ok (.iload_n 1, 1) := by decide +kernel
theorem dX5_weighType_1 : decode cX5_weighType 1 = .ok (.istore 6, 2) := by decide +kernel
theorem dX5_weighType_3 : decode cX5_weighType 3 = .ok (.iconst 0, 1) := by decide +kernel
theorem dX5_weighType_4 : decode cX5_weighType 4 = .ok (.istore 7, 2) := by decide +kernel
theorem dX5_weighType_6 : decode cX5_weighType 6 = .ok (.iload 7, 2) := by decide +kernel
theorem dX5_weighType_8 : decode cX5_weighType 8 = .ok (.bipush 10, 2) := by decide +kernel
theorem dX5_weighType_10 : decode cX5_weighType 10 = .ok (.if_icmp .ge 42, 3) := by decide +kernel
theorem dX5_weighType_13 : decode cX5_weighType 13 = .ok (.iconst 1, 1) := by decide +kernel
theorem dX5_weighType_14 : decode cX5_weighType 14 = .ok (.iload 7, 2) := by decide +kernel
theorem dX5_weighType_16 : decode cX5_weighType 16 = .ok (.ishl, 1) := by decide +kernel
theorem dX5_weighType_17 : decode cX5_weighType 17 = .ok (.iload 6, 2) := by decide +kernel
theorem dX5_weighType_19 : decode cX5_weighType 19 = .ok (.invokestatic 59, 3) := by decide +kernel
theorem dX5_weighType_22 : decode cX5_weighType 22 = .ok (.istore 8, 2) := by decide +kernel
theorem dX5_weighType_24 : decode cX5_weighType 24 = .ok (.aload_n 0, 1) := by decide +kernel
theorem dX5_weighType_25 : decode cX5_weighType 25 = .ok (.iload 8, 2) := by decide +kernel
theorem dX5_weighType_27 : decode cX5_weighType 27 = .ok (.iload_n 2, 1) := by decide +kernel
theorem dX5_weighType_28 : decode cX5_weighType 28 = .ok (.imul, 1) := by decide +kernel
theorem dX5_weighType_29 : decode cX5_weighType 29 = .ok (.iload 8, 2) := by decide +kernel
theorem dX5_weighType_31 : decode cX5_weighType 31 = .ok (.i2l, 1) := by decide +kernel
theorem dX5_weighType_32 : decode cX5_weighType 32 = .ok (.lload_n 3, 1) := by decide +kernel
theorem dX5_weighType_33 : decode cX5_weighType 33 = .ok (.lmul, 1) := by decide +kernel
theorem dX5_weighType_34 : decode cX5_weighType 34 = .ok (.iload 5, 2) := by decide +kernel
theorem dX5_weighType_36 : decode cX5_weighType 36 = .ok (.invokevirtual 73, 3) := by decide +kernel
theorem dX5_weighType_39 : decode cX5_weighType 39 = .ok (.iload 6, 2) := by decide +kernel
theorem dX5_weighType_41 : decode cX5_weighType 41 = .ok (.iload 8, 2) := by decide +kernel
theorem dX5_weighType_43 : decode cX5_weighType 43 = .ok (.isub, 1) := by decide +kernel
theorem dX5_weighType_44 : decode cX5_weighType 44 = .ok (.istore 6, 2) := by decide +kernel
theorem dX5_weighType_46 : decode cX5_weighType 46 = .ok (.iinc 7 1, 3) := by decide +kernel
theorem dX5_weighType_49 : decode cX5_weighType 49 = .ok (.goto (-43), 3) := by decide +kernel
theorem dX5_weighType_52 : decode cX5_weighType 52 = .ok (.return_, 1) := by decide +kernel
def fn_X5_weighType_6 (N : Nat) : Nat → Mem → Nat → Int32 → Int64 → Int32 → Int32 → Int32 → Option (Unit × Mem)
  | 0, _, _, _, _, _, _, _ => none
  | n + 1, M, a0, x2, y3, x5, x6, x7 =>
    if 10 ≤ x7 then
      some ((), M)
    else
      mm_lt (if x6 < (1 <<< (x7 &&& 31)) then x6 else (1 <<< (x7 &&& 31))) fun v1 =>
      (mm_ck M a0 5).bind fun _ => mm_b2 (fn_X5_weighPacket N M a0 ((v1 * x2)) (((Int32.toInt64 v1) * y3)) x5) fun _ M2 =>
      fn_X5_weighType_6 N n M2 a0 x2 y3 x5 ((x6 - v1)) ((x7 + 1))
set_option maxRecDepth 100000 in
set_option maxHeartbeats 4000000 in
theorem bk_X5_weighType_6 {Γ : Gm} {ω : Wd} {k N : Nat} {r : Unit} {M' : Mem} (C : Cx Γ cX5_weighType 9 RX5 ω 2 0 0) (hr : Γ.meth.sig.returnType = none) : ∀ (n : Nat) (M : Mem) (a0 : Nat) (x2 : Int32) (y3 : Int64) (x5 : Int32) (x6 : Int32) (x7 : Int32), fn_X5_weighType_6 N n M a0 x2 y3 x5 x6 x7 = some (r, M') → JJ Γ (QF Γ ω k 0 0 none M') 9 ω k M 0 0 6 [(0, .ref a0), (2, .int x2), (3, .long y3), (5, .int x5), (6, .int x6), (7, .int x7)] [] := by
  intro n
  induction n with
  | zero => intro M a0 x2 y3 x5 x6 x7 h; exact jv_no h
  | succ n ih =>
    intro M a0 x2 y3 x5 x6 x7 h
    rw [fn_X5_weighType_6.eq_2] at h
    refine jv_iload C dX5_weighType_6 5 rfl ?_
    refine jv_bipush (v := 10) C dX5_weighType_8 (by decide) ?_
    refine jv_icmp_ge (tgt := 52) C dX5_weighType_10 (by decide) h (fun h => ?_) (fun h => ?_)
    · exact jv_vret C hr dX5_weighType_52 h
    · refine jv_iconst (v := 1) C dX5_weighType_13 (by decide) ?_
      refine jv_iload C dX5_weighType_14 5 rfl ?_
      refine jv_ishl C dX5_weighType_16 ?_
      refine jv_iload C dX5_weighType_17 4 rfl ?_
      refine jv_mmin C gw_1124 gw_280 gw_98 gw_281 (by decide) (by decide) (Nat.le_of_ble_eq_true rfl) dX5_weighType_19 ?_
      refine jv_nameI h (fun v1 h => ?_)
      refine jv_istore (lv' := [(8, .int v1), (0, .ref a0), (2, .int x2), (3, .long y3), (5, .int x5), (6, .int x6), (7, .int x7)]) C dX5_weighType_22 (by decide) rfl ?_
      refine jv_aload_n C dX5_weighType_24 rfl 1 rfl ?_
      refine jv_iload C dX5_weighType_25 0 rfl ?_
      refine jv_iload_n C dX5_weighType_27 rfl 2 rfl ?_
      refine jv_imul C dX5_weighType_28 ?_
      refine jv_iload C dX5_weighType_29 0 rfl ?_
      refine jv_i2l C dX5_weighType_31 ?_
      refine jv_lload_n C dX5_weighType_32 rfl 3 rfl ?_
      refine jv_lmul C dX5_weighType_33 ?_
      refine jv_iload C dX5_weighType_34 4 rfl ?_
      refine jv_vV0 (As := [.int (v1 * x2), .long ((Int32.toInt64 v1) * y3), .int x5]) C lk_X5_73 rfl dX5_weighType_36 rfl rfl (by decide) (by decide) (by decide) (Nat.le_of_ble_eq_true rfl) h (fun _ _ h => ct_X5_weighPacket h) (fun _ M2 h => ?_)
      refine jv_iload C dX5_weighType_39 5 rfl ?_
      refine jv_iload C dX5_weighType_41 0 rfl ?_
      refine jv_isub C dX5_weighType_43 ?_
      refine jv_istore (lv' := [(6, .int (x6 - v1)), (8, .int v1), (0, .ref a0), (2, .int x2), (3, .long y3), (5, .int x5), (7, .int x7)]) C dX5_weighType_44 (by decide) rfl ?_
      refine jv_iinc (v := 1) (lv' := [(7, .int (x7 + 1)), (6, .int (x6 - v1)), (8, .int v1), (0, .ref a0), (2, .int x2), (3, .long y3), (5, .int x5)]) C dX5_weighType_46 6 rfl (by decide) (by decide) rfl ?_
      refine jv_goto (tgt := 6) C dX5_weighType_49 (by decide) ?_
      refine jv_sub [3, 4, 5, 6, 1, 0] rfl ?_
      exact ih _ _ _ _ _ _ _ h
def fn_X5_weighType (N : Nat) (M : Mem) (a0 : Nat) (x1 : Int32) (x2 : Int32) (y3 : Int64) (x5 : Int32) : Option (Unit × Mem) :=
  fn_X5_weighType_6 N N M a0 x2 y3 x5 x1 0
set_option maxRecDepth 100000 in
set_option maxHeartbeats 4000000 in
theorem ct_X5_weighType {l : Launch} {ω : Wd} {k N : Nat} {M : Mem} {a0 : Nat} {x1 : Int32} {x2 : Int32} {y3 : Int64} {x5 : Int32} {r : Unit} {M' : Mem} (h : fn_X5_weighType N M a0 x1 x2 y3 x5 = some (r, M')) : CM l ω k yX5_weighType cX5_weighType 9 none 2 0 0 [.ref a0, .int x1, .int x2, .long y3, .int x5] M none M' := by
  refine CM.of (by decide) (Nat.le_of_ble_eq_true rfl) fun Γ hl C hr hi => ?_
  subst hl
  unfold fn_X5_weighType at h
  refine jv_iload_n C dX5_weighType_0 rfl 1 rfl ?_
  refine jv_istore (lv' := [(6, .int x1), (0, .ref a0), (1, .int x1), (2, .int x2), (3, .long y3), (5, .int x5)]) C dX5_weighType_1 (by decide) rfl ?_
  refine jv_iconst (v := 0) C dX5_weighType_3 (by decide) ?_
  refine jv_istore (lv' := [(7, .int 0), (6, .int x1), (0, .ref a0), (1, .int x1), (2, .int x2), (3, .long y3), (5, .int x5)]) C dX5_weighType_4 (by decide) rfl ?_
  refine jv_sub [2, 4, 5, 6, 1, 0] rfl ?_
  exact bk_X5_weighType_6 C hr _ _ _ _ _ _ _ _ h
theorem dX5_readCoins_0 : decode cX5_readCoins 0 = .ok (.aload_n 0, 1) := by decide +kernel
theorem dX5_readCoins_1 : decode cX5_readCoins 1 = .ok (.getfield 50, 3) := by decide +kernel
theorem dX5_readCoins_4 : decode cX5_readCoins 4 = .ok (.lconst 1, 1) := by decide +kernel
theorem dX5_readCoins_5 : decode cX5_readCoins 5 = .ok (.lcmp, 1) := by decide +kernel
theorem dX5_readCoins_6 : decode cX5_readCoins 6 = .ok (.ifCond .ge 6, 3) := by decide +kernel
theorem dX5_readCoins_9 : decode cX5_readCoins 9 = .ok (.bipush (-2), 2) := by decide +kernel
theorem dX5_readCoins_11 : decode cX5_readCoins 11 = .ok (.ireturn, 1) := by decide +kernel
theorem dX5_readCoins_12 : decode cX5_readCoins 12 = .ok (.lload_n 1, 1) := by decide +kernel
theorem dX5_readCoins_13 : decode cX5_readCoins 13 = .ok (.aload_n 0, 1) := by decide +kernel
theorem dX5_readCoins_14 : decode cX5_readCoins 14 = .ok (.getfield 50, 3) := by decide +kernel
theorem dX5_readCoins_17 : decode cX5_readCoins 17 = .ok (.ladd, 1) := by decide +kernel
theorem dX5_readCoins_18 : decode cX5_readCoins 18 = .ok (.lconst 1, 1) := by decide +kernel
theorem dX5_readCoins_19 : decode cX5_readCoins 19 = .ok (.lsub, 1) := by decide +kernel
theorem dX5_readCoins_20 : decode cX5_readCoins 20 = .ok (.aload_n 0, 1) := by decide +kernel
theorem dX5_readCoins_21 : decode cX5_readCoins 21 = .ok (.getfield 50, 3) := by decide +kernel
theorem dX5_readCoins_24 : decode cX5_readCoins 24 = .ok (.ldiv, 1) := by decide +kernel
theorem dX5_readCoins_25 : decode cX5_readCoins 25 = .ok (.lstore_n 3, 1) := by decide +kernel
theorem dX5_readCoins_26 : decode cX5_readCoins 26 = .ok (.lload_n 3, 1) := by decide +kernel
theorem dX5_readCoins_27 : decode cX5_readCoins 27 = .ok (.aload_n 0, 1) := by decide +kernel
theorem dX5_readCoins_28 : decode cX5_readCoins 28 = .ok (.getfield 50, 3) := by decide +kernel
theorem dX5_readCoins_31 : decode cX5_readCoins 31 = .ok (.lmul, 1) := by decide +kernel
theorem dX5_readCoins_32 : decode cX5_readCoins 32 = .ok (.lload_n 1, 1) := by decide +kernel
theorem dX5_readCoins_33 : decode cX5_readCoins 33 = .ok (.lsub, 1) := by decide +kernel
theorem dX5_readCoins_34 : decode cX5_readCoins 34 = .ok (.lstore 5, 2) := by decide +kernel
theorem dX5_readCoins_36 : decode cX5_readCoins 36 = .ok (.aload_n 0, 1) := by decide +kernel
theorem dX5_readCoins_37 : decode cX5_readCoins 37 = .ok (.getfield 27, 3) := by decide +kernel
theorem dX5_readCoins_40 : decode cX5_readCoins 40 = .ok (.invokevirtual 77, 3) := by decide +kernel
theorem dX5_readCoins_43 : decode cX5_readCoins 43 = .ok (.iconst 0, 1) := by decide +kernel
theorem dX5_readCoins_44 : decode cX5_readCoins 44 = .ok (.istore 7, 2) := by decide +kernel
theorem dX5_readCoins_46 : decode cX5_readCoins 46 = .ok (.iload 7, 2) := by decide +kernel
theorem dX5_readCoins_48 : decode cX5_readCoins 48 = .ok (.bipush 8, 2) := by decide +kernel
theorem dX5_readCoins_50 : decode cX5_readCoins 50 = .ok (.if_icmp .ge 48, 3) := by decide +kernel
theorem dX5_readCoins_53 : decode cX5_readCoins 53 = .ok (.aload_n 0, 1) := by decide +kernel
theorem dX5_readCoins_54 : decode cX5_readCoins 54 = .ok (.getfield 15, 3) := by decide +kernel
theorem dX5_readCoins_57 : decode cX5_readCoins 57 = .ok (.iload 7, 2) := by decide +kernel
theorem dX5_readCoins_59 : decode cX5_readCoins 59 = .ok (.laload, 1) := by decide +kernel
theorem dX5_readCoins_60 : decode cX5_readCoins 60 = .ok (.lstore 8, 2) := by decide +kernel
theorem dX5_readCoins_62 : decode cX5_readCoins 62 = .ok (.lload 8, 2) := by decide +kernel
theorem dX5_readCoins_64 : decode cX5_readCoins 64 = .ok (.lconst 1, 1) := by decide +kernel
theorem dX5_readCoins_65 : decode cX5_readCoins 65 = .ok (.lcmp, 1) := by decide +kernel
theorem dX5_readCoins_66 : decode cX5_readCoins 66 = .ok (.ifCond .ge 6, 3) := by decide +kernel
theorem dX5_readCoins_69 : decode cX5_readCoins 69 = .ok (.bipush (-2), 2) := by decide +kernel
theorem dX5_readCoins_71 : decode cX5_readCoins 71 = .ok (.ireturn, 1) := by decide +kernel
theorem dX5_readCoins_72 : decode cX5_readCoins 72 = .ok (.aload_n 0, 1) := by decide +kernel
theorem dX5_readCoins_73 : decode cX5_readCoins 73 = .ok (.getfield 27, 3) := by decide +kernel
theorem dX5_readCoins_76 : decode cX5_readCoins 76 = .ok (.lload 5, 2) := by decide +kernel
theorem dX5_readCoins_78 : decode cX5_readCoins 78 = .ok (.lload 8, 2) := by decide +kernel
theorem dX5_readCoins_80 : decode cX5_readCoins 80 = .ok (.ldiv, 1) := by decide +kernel
theorem dX5_readCoins_81 : decode cX5_readCoins 81 = .ok (.l2i, 1) := by decide +kernel
theorem dX5_readCoins_82 : decode cX5_readCoins 82 = .ok (.invokevirtual 80, 3) := by decide +kernel
theorem dX5_readCoins_85 : decode cX5_readCoins 85 = .ok (.lload 5, 2) := by decide +kernel
theorem dX5_readCoins_87 : decode cX5_readCoins 87 = .ok (.lload 8, 2) := by decide +kernel
theorem dX5_readCoins_89 : decode cX5_readCoins 89 = .ok (.lrem, 1) := by decide +kernel
theorem dX5_readCoins_90 : decode cX5_readCoins 90 = .ok (.lstore 5, 2) := by decide +kernel
theorem dX5_readCoins_92 : decode cX5_readCoins 92 = .ok (.iinc 7 1, 3) := by decide +kernel
theorem dX5_readCoins_95 : decode cX5_readCoins 95 = .ok (.goto (-49), 3) := by decide +kernel
theorem dX5_readCoins_98 : decode cX5_readCoins 98 = .ok (.lload_n 3, 1) := by decide +kernel
theorem dX5_readCoins_99 : decode cX5_readCoins 99 = .ok (.l2i, 1) := by decide +kernel
theorem dX5_readCoins_100 : decode cX5_readCoins 100 = .ok (.ireturn, 1) := by decide +kernel
def fn_X5_readCoins_46 (N : Nat) : Nat → Mem → Nat → Int64 → Int64 → Int32 → Option (Int32 × Mem)
  | 0, _, _, _, _, _ => none
  | n + 1, M, a0, y3, y5, x7 =>
    if 8 ≤ x7 then
      some ((Int64.toInt32 y3), M)
    else
      (mm_gR M a0 5 1).bind fun b1 =>
      (mm_aL M b1 x7).bind fun v2 =>
      if 0 ≤ (lg_cmp v2 1) then
        (mm_gR M a0 5 4).bind fun b3 =>
        (mm_dL y5 v2).bind fun v4 =>
        (mm_ck M b3 6).bind fun _ => mm_b2 (fn_X6_add N M b3 ((Int64.toInt32 v4))) fun _ M5 =>
        (mm_rL y5 v2).bind fun v6 =>
        fn_X5_readCoins_46 N n M5 a0 y3 v6 ((x7 + 1))
      else
        some ((-2), M)
set_option maxRecDepth 100000 in
set_option maxHeartbeats 4000000 in
theorem bk_X5_readCoins_46 {Γ : Gm} {ω : Wd} {k N : Nat} {r : Int32} {M' : Mem} (C : Cx Γ cX5_readCoins 10 RX5 ω 1 0 0) (hr : Γ.meth.sig.returnType = (some .int)) : ∀ (n : Nat) (M : Mem) (a0 : Nat) (y3 : Int64) (y5 : Int64) (x7 : Int32), fn_X5_readCoins_46 N n M a0 y3 y5 x7 = some (r, M') → JJ Γ (QF Γ ω k 0 0 (some (.int r)) M') 10 ω k M 0 0 46 [(0, .ref a0), (3, .long y3), (5, .long y5), (7, .int x7)] [] := by
  intro n
  induction n with
  | zero => intro M a0 y3 y5 x7 h; exact jv_no h
  | succ n ih =>
    intro M a0 y3 y5 x7 h
    rw [fn_X5_readCoins_46.eq_2] at h
    refine jv_iload C dX5_readCoins_46 3 rfl ?_
    refine jv_bipush (v := 8) C dX5_readCoins_48 (by decide) ?_
    refine jv_icmp_ge (tgt := 98) C dX5_readCoins_50 (by decide) h (fun h => ?_) (fun h => ?_)
    · refine jv_lload_n C dX5_readCoins_98 rfl 1 rfl ?_
      refine jv_l2i C dX5_readCoins_99 ?_
      exact jv_iret C hr dX5_readCoins_100 h
    · refine jv_aload_n C dX5_readCoins_53 rfl 0 rfl ?_
      refine jv_getR C fa_X5_15 dX5_readCoins_54 h (fun b1 h => ?_)
      refine jv_iload C dX5_readCoins_57 3 rfl ?_
      refine jv_lald C dX5_readCoins_59 h (fun v2 h => ?_)
      refine jv_lstore (lv' := [(8, .long v2), (0, .ref a0), (3, .long y3), (5, .long y5), (7, .int x7)]) C dX5_readCoins_60 (by decide) rfl ?_
      refine jv_lload C dX5_readCoins_62 0 rfl ?_
      refine jv_lconst (v := 1) C dX5_readCoins_64 (by decide) ?_
      refine jv_lcmp C dX5_readCoins_65 ?_
      refine jv_if_ge (tgt := 72) C dX5_readCoins_66 (by decide) h (fun h => ?_) (fun h => ?_)
      · refine jv_aload_n C dX5_readCoins_72 rfl 1 rfl ?_
        refine jv_getR C fa_X5_27 dX5_readCoins_73 h (fun b3 h => ?_)
        refine jv_lload C dX5_readCoins_76 3 rfl ?_
        refine jv_lload C dX5_readCoins_78 0 rfl ?_
        refine jv_ldiv C dX5_readCoins_80 h (fun v4 h => ?_)
        refine jv_l2i C dX5_readCoins_81 ?_
        refine jv_vV0 (As := [.int (Int64.toInt32 v4)]) C lk_X5_80 rfl dX5_readCoins_82 rfl rfl (by decide) (by decide) (by decide) (Nat.le_of_ble_eq_true rfl) h (fun _ _ h => ct_X6_add h) (fun _ M5 h => ?_)
        refine jv_lload C dX5_readCoins_85 3 rfl ?_
        refine jv_lload C dX5_readCoins_87 0 rfl ?_
        refine jv_lrem C dX5_readCoins_89 h (fun v6 h => ?_)
        refine jv_lstore (lv' := [(5, .long v6), (8, .long v2), (0, .ref a0), (3, .long y3), (7, .int x7)]) C dX5_readCoins_90 (by decide) rfl ?_
        refine jv_iinc (v := 1) (lv' := [(7, .int (x7 + 1)), (5, .long v6), (8, .long v2), (0, .ref a0), (3, .long y3)]) C dX5_readCoins_92 4 rfl (by decide) (by decide) rfl ?_
        refine jv_goto (tgt := 46) C dX5_readCoins_95 (by decide) ?_
        refine jv_sub [3, 4, 1, 0] rfl ?_
        exact ih _ _ _ _ _ h
      · refine jv_bipush (v := (-2)) C dX5_readCoins_69 (by decide) ?_
        exact jv_iret C hr dX5_readCoins_71 h
def fn_X5_readCoins (N : Nat) (M : Mem) (a0 : Nat) (y1 : Int64) : Option (Int32 × Mem) :=
  (mm_gL M a0 5 3).bind fun v1 =>
  if 0 ≤ (lg_cmp v1 1) then
    (mm_gL M a0 5 3).bind fun v2 =>
    (mm_gL M a0 5 3).bind fun v3 =>
    (mm_dL ((y1 + v2) - 1) v3).bind fun v4 =>
    (mm_gL M a0 5 3).bind fun v5 =>
    (mm_gR M a0 5 4).bind fun b6 =>
    (mm_ck M b6 6).bind fun _ => mm_b2 (fn_X6_empty N M b6) fun _ M7 =>
    fn_X5_readCoins_46 N N M7 a0 v4 (((v4 * v5) - y1)) 0
  else
    some ((-2), M)
set_option maxRecDepth 100000 in
set_option maxHeartbeats 4000000 in
theorem ct_X5_readCoins {l : Launch} {ω : Wd} {k N : Nat} {M : Mem} {a0 : Nat} {y1 : Int64} {r : Int32} {M' : Mem} (h : fn_X5_readCoins N M a0 y1 = some (r, M')) : CM l ω k yX5_readCoins cX5_readCoins 10 (some .int) 1 0 0 [.ref a0, .long y1] M (some (.int r)) M' := by
  refine CM.of (by decide) (Nat.le_of_ble_eq_true rfl) fun Γ hl C hr hi => ?_
  subst hl
  unfold fn_X5_readCoins at h
  refine jv_aload_n C dX5_readCoins_0 rfl 0 rfl ?_
  refine jv_getL C fa_X5_50 dX5_readCoins_1 h (fun v1 h => ?_)
  refine jv_lconst (v := 1) C dX5_readCoins_4 (by decide) ?_
  refine jv_lcmp C dX5_readCoins_5 ?_
  refine jv_if_ge (tgt := 12) C dX5_readCoins_6 (by decide) h (fun h => ?_) (fun h => ?_)
  · refine jv_lload_n C dX5_readCoins_12 rfl 1 rfl ?_
    refine jv_aload_n C dX5_readCoins_13 rfl 0 rfl ?_
    refine jv_getL C fa_X5_50 dX5_readCoins_14 h (fun v2 h => ?_)
    refine jv_ladd C dX5_readCoins_17 ?_
    refine jv_lconst (v := 1) C dX5_readCoins_18 (by decide) ?_
    refine jv_lsub C dX5_readCoins_19 ?_
    refine jv_aload_n C dX5_readCoins_20 rfl 0 rfl ?_
    refine jv_getL C fa_X5_50 dX5_readCoins_21 h (fun v3 h => ?_)
    refine jv_ldiv C dX5_readCoins_24 h (fun v4 h => ?_)
    refine jv_lstore_n (lv' := [(3, .long v4), (0, .ref a0), (1, .long y1)]) C dX5_readCoins_25 rfl (by decide) rfl ?_
    refine jv_lload_n C dX5_readCoins_26 rfl 0 rfl ?_
    refine jv_aload_n C dX5_readCoins_27 rfl 1 rfl ?_
    refine jv_getL C fa_X5_50 dX5_readCoins_28 h (fun v5 h => ?_)
    refine jv_lmul C dX5_readCoins_31 ?_
    refine jv_lload_n C dX5_readCoins_32 rfl 2 rfl ?_
    refine jv_lsub C dX5_readCoins_33 ?_
    refine jv_lstore (lv' := [(5, .long ((v4 * v5) - y1)), (3, .long v4), (0, .ref a0), (1, .long y1)]) C dX5_readCoins_34 (by decide) rfl ?_
    refine jv_aload_n C dX5_readCoins_36 rfl 2 rfl ?_
    refine jv_getR C fa_X5_27 dX5_readCoins_37 h (fun b6 h => ?_)
    refine jv_vV0 (As := []) C lk_X5_77 rfl dX5_readCoins_40 rfl rfl (by decide) (by decide) (by decide) (Nat.le_of_ble_eq_true rfl) h (fun _ _ h => ct_X6_empty h) (fun _ M7 h => ?_)
    refine jv_iconst (v := 0) C dX5_readCoins_43 (by decide) ?_
    refine jv_istore (lv' := [(7, .int 0), (5, .long ((v4 * v5) - y1)), (3, .long v4), (0, .ref a0), (1, .long y1)]) C dX5_readCoins_44 (by decide) rfl ?_
    refine jv_sub [3, 2, 1, 0] rfl ?_
    exact bk_X5_readCoins_46 C hr _ _ _ _ _ _ h
  · refine jv_bipush (v := (-2)) C dX5_readCoins_9 (by decide) ?_
    exact jv_iret C hr dX5_readCoins_11 h
theorem dX5_plan_0 : decode cX5_plan 0 = .ok (.iload_n 2, 1) := by decide +kernel
theorem dX5_plan_1 : decode cX5_plan 1 = .ok (.ifCond .lt 10, 3) := by decide +kernel
theorem dX5_plan_4 : decode cX5_plan 4 = .ok (.iload_n 2, 1) := by decide +kernel
theorem dX5_plan_5 : decode cX5_plan 5 = .ok (.sipush 5000, 3) := by decide +kernel
theorem dX5_plan_8 : decode cX5_plan 8 = .ok (.if_icmp .le 6, 3) := by decide +kernel
theorem dX5_plan_11 : decode cX5_plan 11 = .ok (.bipush (-2), 2) := by decide +kernel
theorem dX5_plan_13 : decode cX5_plan 13 = .ok (.ireturn, 1) := by decide +kernel
theorem dX5_plan_14 : decode cX5_plan 14 = .ok (.aload_n 0, 1) := by decide +kernel
theorem dX5_plan_15 : decode cX5_plan 15 = .ok (.getfield 19, 3) := by decide +kernel
theorem dX5_plan_18 : decode cX5_plan 18 = .ok (.iconst 0, 1) := by decide +kernel
theorem dX5_plan_19 : decode cX5_plan 19 = .ok (.iload_n 2, 1) := by decide +kernel
theorem dX5_plan_20 : decode cX5_plan 20 = .ok (.iconst 1, 1) := by decide +kernel
theorem dX5_plan_21 : decode cX5_plan 21 = .ok (.iadd, 1) := by decide +kernel
theorem dX5_plan_22 : decode cX5_plan 22 = .ok (.ldc2_w 54, 3) := by decide +kernel
theorem dX5_plan_25 : decode cX5_plan 25 = .ok (.invokestatic 56, 3) := by decide +kernel
theorem dX5_plan_28 : decode cX5_plan 28 = .ok (.aload_n 0, 1) := by decide +kernel
theorem dX5_plan_29 : decode cX5_plan 29 = .ok (.getfield 19, 3) := by decide +kernel
theorem dX5_plan_32 : decode cX5_plan 32 = .ok (.iconst 0, 1) := by decide +kernel
theorem dX5_plan_33 : decode cX5_plan 33 = .ok (.lconst 0, 1) := by decide +kernel
theorem dX5_plan_34 : decode cX5_plan 34 = .ok (.lastore, 1) := by decide +kernel
theorem dX5_plan_35 : decode cX5_plan 35 = .ok (.iconst 0, 1) := by decide +kernel
theorem dX5_plan_36 : decode cX5_plan 36 = .ok (.istore_n 3, 1) := by decide +kernel
theorem dX5_plan_37 : decode cX5_plan 37 = .ok (.iconst 0, 1) := by decide +kernel
theorem dX5_plan_38 : decode cX5_plan 38 = .ok (.istore 4, 2) := by decide +kernel
theorem dX5_plan_40 : decode cX5_plan 40 = .ok (.iload 4, 2) := by decide +kernel
theorem dX5_plan_42 : decode cX5_plan 42 = .ok (.bipush 8, 2) := by decide +kernel
theorem dX5_plan_44 : decode cX5_plan 44 = .ok (.if_icmp .ge 75, 3) := by decide +kernel
theorem dX5_plan_47 : decode cX5_plan 47 = .ok (.aload_n 1, 1) := by decide +kernel
theorem dX5_plan_48 : decode cX5_plan 48 = .ok (.iload 4, 2) := by decide +kernel
theorem dX5_plan_50 : decode cX5_plan 50 = .ok (.invokevirtual 46, 3) := by decide +kernel
theorem dX5_plan_53 : decode cX5_plan 53 = .ok (.istore 5, 2) := by decide +kernel
theorem dX5_plan_55 : decode cX5_plan 55 = .ok (.aload_n 0, 1) := by decide +kernel
theorem dX5_plan_56 : decode cX5_plan 56 = .ok (.getfield 9, 3) := by decide +kernel
theorem dX5_plan_59 : decode cX5_plan 59 = .ok (.iload 4, 2) := by decide +kernel
theorem dX5_plan_61 : decode cX5_plan 61 = .ok (.iaload, 1) := by decide +kernel
theorem dX5_plan_62 : decode cX5_plan 62 = .ok (.ifCond .le 51, 3) := by decide +kernel
theorem dX5_plan_65 : decode cX5_plan 65 = .ok (.iload 5, 2) := by decide +kernel
theorem dX5_plan_67 : decode cX5_plan 67 = .ok (.ifCond .le 46, 3) := by decide +kernel
theorem dX5_plan_70 : decode cX5_plan 70 = .ok (.iload_n 2, 1) := by decide +kernel
theorem dX5_plan_71 : decode cX5_plan 71 = .ok (.iload_n 3, 1) := by decide +kernel
theorem dX5_plan_72 : decode cX5_plan 72 = .ok (.aload_n 0, 1) := by decide +kernel
theorem dX5_plan_73 : decode cX5_plan 73 = .ok (.getfield 9, 3) := by decide +kernel
theorem dX5_plan_76 : decode cX5_plan 76 = .ok (.iload 4, 2) := by decide +kernel
theorem dX5_plan_78 : decode cX5_plan 78 = .ok (.iaload, 1) := by decide +kernel
theorem dX5_plan_79 : decode cX5_plan 79 = .ok (.iload 5, 2) := by decide +kernel
theorem dX5_plan_81 : decode cX5_plan 81 = .ok (.imul, 1) := by decide +kernel
theorem dX5_plan_82 : decode cX5_plan 82 = .ok (.iadd, 1) := by decide +kernel
theorem dX5_plan_83 : decode cX5_plan 83 = .ok (.invokestatic 59, 3) := by decide +kernel
theorem dX5_plan_86 : decode cX5_plan 86 = .ok (.istore_n 3, 1) := by decide +kernel
theorem dX5_plan_87 : decode cX5_plan 87 = .ok (.aload_n 0, 1) := by decide +kernel
theorem dX5_plan_88 : decode cX5_plan 88 = .ok (.aload_n 0, 1) := by decide +kernel
theorem dX5_plan_89 : decode cX5_plan 89 = .ok (.getfield 9, 3) := by decide +kernel
theorem dX5_plan_92 : decode cX5_plan 92 = .ok (.iload 4, 2) := by decide +kernel
theorem dX5_plan_94 : decode cX5_plan 94 = .ok (.iaload, 1) := by decide +kernel
theorem dX5_plan_95 : decode cX5_plan 95 = .ok (.iload 5, 2) := by decide +kernel
theorem dX5_plan_97 : decode cX5_plan 97 = .ok (.aload_n 0, 1) := by decide +kernel
theorem dX5_plan_98 : decode cX5_plan 98 = .ok (.getfield 50, 3) := by decide +kernel
theorem dX5_plan_101 : decode cX5_plan 101 = .ok (.aload_n 0, 1) := by decide +kernel
theorem dX5_plan_102 : decode cX5_plan 102 = .ok (.getfield 15, 3) := by decide +kernel
theorem dX5_plan_105 : decode cX5_plan 105 = .ok (.iload 4, 2) := by decide +kernel
theorem dX5_plan_107 : decode cX5_plan 107 = .ok (.laload, 1) := by decide +kernel
theorem dX5_plan_108 : decode cX5_plan 108 = .ok (.lsub, 1) := by decide +kernel
theorem dX5_plan_109 : decode cX5_plan 109 = .ok (.iload_n 3, 1) := by decide +kernel
theorem dX5_plan_110 : decode cX5_plan 110 = .ok (.invokevirtual 65, 3) := by decide +kernel
theorem dX5_plan_113 : decode cX5_plan 113 = .ok (.iinc 4 1, 3) := by decide +kernel
theorem dX5_plan_116 : decode cX5_plan 116 = .ok (.goto (-76), 3) := by decide +kernel
theorem dX5_plan_119 : decode cX5_plan 119 = .ok (.aload_n 0, 1) := by decide +kernel
theorem dX5_plan_120 : decode cX5_plan 120 = .ok (.getfield 19, 3) := by decide +kernel
theorem dX5_plan_123 : decode cX5_plan 123 = .ok (.iload_n 2, 1) := by decide +kernel
theorem dX5_plan_124 : decode cX5_plan 124 = .ok (.laload, 1) := by decide +kernel
theorem dX5_plan_125 : decode cX5_plan 125 = .ok (.ldc2_w 54, 3) := by decide +kernel
theorem dX5_plan_128 : decode cX5_plan 128 = .ok (.lcmp, 1) := by decide +kernel
theorem dX5_plan_129 : decode cX5_plan 129 = .ok (.ifCond .ne 8, 3) := by decide +kernel
theorem dX5_plan_132 : decode cX5_plan 132 = .ok (.bipush (-2), 2) := by decide +kernel
theorem dX5_plan_134 : decode cX5_plan 134 = .ok (.goto 13, 3) := by decide +kernel
theorem dX5_plan_137 : decode cX5_plan 137 = .ok (.aload_n 0, 1) := by decide +kernel
theorem dX5_plan_138 : decode cX5_plan 138 = .ok (.aload_n 0, 1) := by decide +kernel
theorem dX5_plan_139 : decode cX5_plan 139 = .ok (.getfield 19, 3) := by decide +kernel
theorem dX5_plan_142 : decode cX5_plan 142 = .ok (.iload_n 2, 1) := by decide +kernel
theorem dX5_plan_143 : decode cX5_plan 143 = .ok (.laload, 1) := by decide +kernel
theorem dX5_plan_144 : decode cX5_plan 144 = .ok (.invokevirtual 69, 3) := by decide +kernel
theorem dX5_plan_147 : decode cX5_plan 147 = .ok (.ireturn, 1) := by decide +kernel
def fn_X5_plan_113 (N : Nat) (K40 : Mem → Nat → Nat → Int32 → Int32 → Int32 → Option (Int32 × Mem)) (M : Mem) (a0 : Nat) (a1 : Nat) (x2 : Int32) (x3 : Int32) (x4 : Int32) : Option (Int32 × Mem) :=
  K40 M a0 a1 x2 x3 ((x4 + 1))
set_option maxRecDepth 100000 in
set_option maxHeartbeats 4000000 in
theorem bk_X5_plan_113 {Γ : Gm} {ω : Wd} {k N : Nat} {r : Int32} {M' : Mem} (C : Cx Γ cX5_plan 6 RX5 ω 3 0 0) (hr : Γ.meth.sig.returnType = (some .int)) {K40 : Mem → Nat → Nat → Int32 → Int32 → Int32 → Option (Int32 × Mem)} (hK40 : ∀ (M : Mem) (a0 : Nat) (a1 : Nat) (x2 : Int32) (x3 : Int32) (x4 : Int32), K40 M a0 a1 x2 x3 x4 = some (r, M') → JJ Γ (QF Γ ω k 0 0 (some (.int r)) M') 6 ω k M 0 0 40 [(0, .ref a0), (1, .ref a1), (2, .int x2), (3, .int x3), (4, .int x4)] []) (M : Mem) (a0 : Nat) (a1 : Nat) (x2 : Int32) (x3 : Int32) (x4 : Int32) (h : fn_X5_plan_113 N K40 M a0 a1 x2 x3 x4 = some (r, M')) : JJ Γ (QF Γ ω k 0 0 (some (.int r)) M') 6 ω k M 0 0 113 [(0, .ref a0), (1, .ref a1), (2, .int x2), (3, .int x3), (4, .int x4)] [] := by
  unfold fn_X5_plan_113 at h
  refine jv_iinc (v := 1) (lv' := [(4, .int (x4 + 1)), (0, .ref a0), (1, .ref a1), (2, .int x2), (3, .int x3)]) C dX5_plan_113 4 rfl (by decide) (by decide) rfl ?_
  refine jv_goto (tgt := 40) C dX5_plan_116 (by decide) ?_
  refine jv_sub [1, 2, 3, 4, 0] rfl ?_
  exact hK40 _ _ _ _ _ _ h
def fn_X5_plan_40 (N : Nat) : Nat → Mem → Nat → Nat → Int32 → Int32 → Int32 → Option (Int32 × Mem)
  | 0, _, _, _, _, _, _ => none
  | n + 1, M, a0, a1, x2, x3, x4 =>
    if 8 ≤ x4 then
      (mm_gR M a0 5 2).bind fun b1 =>
      (mm_aL M b1 x2).bind fun v2 =>
      if (lg_cmp v2 (-1)) = 0 then
        some ((-2), M)
      else
        (mm_gR M a0 5 2).bind fun b3 =>
        (mm_aL M b3 x2).bind fun v4 =>
        (mm_ck M a0 5).bind fun _ => mm_b2 (fn_X5_readCoins N M a0 v4) fun v6 M5 =>
        some (v6, M5)
    else
      (mm_ck M a1 6).bind fun _ => mm_b2 (fn_X6_at N M a1 x4) fun v8 M7 =>
      (mm_gR M7 a0 5 0).bind fun b9 =>
      (mm_aI M7 b9 0 x4).bind fun v10 =>
      if v10 ≤ 0 then
        fn_X5_plan_113 N (fn_X5_plan_40 N n) M7 a0 a1 x2 x3 x4
      else
        if v8 ≤ 0 then
          fn_X5_plan_113 N (fn_X5_plan_40 N n) M7 a0 a1 x2 x3 x4
        else
          (mm_gR M7 a0 5 0).bind fun b11 =>
          (mm_aI M7 b11 0 x4).bind fun v12 =>
          mm_lt (if (x3 + (v12 * v8)) < x2 then (x3 + (v12 * v8)) else x2) fun v13 =>
          (mm_gR M7 a0 5 0).bind fun b14 =>
          (mm_aI M7 b14 0 x4).bind fun v15 =>
          (mm_gL M7 a0 5 3).bind fun v16 =>
          (mm_gR M7 a0 5 1).bind fun b17 =>
          (mm_aL M7 b17 x4).bind fun v18 =>
          (mm_ck M7 a0 5).bind fun _ => mm_b2 (fn_X5_weighType N M7 a0 v15 v8 ((v16 - v18)) v13) fun _ M19 =>
          fn_X5_plan_113 N (fn_X5_plan_40 N n) M19 a0 a1 x2 v13 x4
set_option maxRecDepth 100000 in
set_option maxHeartbeats 4000000 in
theorem bk_X5_plan_40 {Γ : Gm} {ω : Wd} {k N : Nat} {r : Int32} {M' : Mem} (C : Cx Γ cX5_plan 6 RX5 ω 3 0 0) (hr : Γ.meth.sig.returnType = (some .int)) : ∀ (n : Nat) (M : Mem) (a0 : Nat) (a1 : Nat) (x2 : Int32) (x3 : Int32) (x4 : Int32), fn_X5_plan_40 N n M a0 a1 x2 x3 x4 = some (r, M') → JJ Γ (QF Γ ω k 0 0 (some (.int r)) M') 6 ω k M 0 0 40 [(0, .ref a0), (1, .ref a1), (2, .int x2), (3, .int x3), (4, .int x4)] [] := by
  intro n
  induction n with
  | zero => intro M a0 a1 x2 x3 x4 h; exact jv_no h
  | succ n ih =>
    intro M a0 a1 x2 x3 x4 h
    rw [fn_X5_plan_40.eq_2] at h
    refine jv_iload C dX5_plan_40 4 rfl ?_
    refine jv_bipush (v := 8) C dX5_plan_42 (by decide) ?_
    refine jv_icmp_ge (tgt := 119) C dX5_plan_44 (by decide) h (fun h => ?_) (fun h => ?_)
    · refine jv_aload_n C dX5_plan_119 rfl 0 rfl ?_
      refine jv_getR C fa_X5_19 dX5_plan_120 h (fun b1 h => ?_)
      refine jv_iload_n C dX5_plan_123 rfl 2 rfl ?_
      refine jv_lald C dX5_plan_124 h (fun v2 h => ?_)
      refine jv_ldc2 C gw_1120 dX5_plan_125 ?_
      refine jv_lcmp C dX5_plan_128 ?_
      refine jv_if_ne (tgt := 137) C dX5_plan_129 (by decide) h (fun h => ?_) (fun h => ?_)
      · refine jv_aload_n C dX5_plan_137 rfl 0 rfl ?_
        refine jv_aload_n C dX5_plan_138 rfl 0 rfl ?_
        refine jv_getR C fa_X5_19 dX5_plan_139 h (fun b3 h => ?_)
        refine jv_iload_n C dX5_plan_142 rfl 2 rfl ?_
        refine jv_lald C dX5_plan_143 h (fun v4 h => ?_)
        refine jv_vI0 (As := [.long v4]) C lk_X5_69 rfl dX5_plan_144 rfl rfl (by decide) (by decide) (by decide) (Nat.le_of_ble_eq_true rfl) h (fun _ _ h => ct_X5_readCoins h) (fun v6 M5 h => ?_)
        exact jv_iret C hr dX5_plan_147 h
      · refine jv_bipush (v := (-2)) C dX5_plan_132 (by decide) ?_
        refine jv_goto (tgt := 147) C dX5_plan_134 (by decide) ?_
        exact jv_iret C hr dX5_plan_147 h
    · refine jv_aload_n C dX5_plan_47 rfl 1 rfl ?_
      refine jv_iload C dX5_plan_48 4 rfl ?_
      refine jv_vI0 (As := [.int x4]) C lk_X5_46 rfl dX5_plan_50 rfl rfl (by decide) (by decide) (by decide) (Nat.le_of_ble_eq_true rfl) h (fun _ _ h => ct_X6_at h) (fun v8 M7 h => ?_)
      refine jv_istore (lv' := [(5, .int v8), (0, .ref a0), (1, .ref a1), (2, .int x2), (3, .int x3), (4, .int x4)]) C dX5_plan_53 (by decide) rfl ?_
      refine jv_aload_n C dX5_plan_55 rfl 1 rfl ?_
      refine jv_getR C fa_X5_9 dX5_plan_56 h (fun b9 h => ?_)
      refine jv_iload C dX5_plan_59 5 rfl ?_
      refine jv_iald C dX5_plan_61 h (fun v10 h => ?_)
      refine jv_if_le (tgt := 113) C dX5_plan_62 (by decide) h (fun h => ?_) (fun h => ?_)
      · refine jv_sub [1, 2, 3, 4, 5] rfl ?_
        exact bk_X5_plan_113 C hr ih _ _ _ _ _ _ h
      · refine jv_iload C dX5_plan_65 0 rfl ?_
        refine jv_if_le (tgt := 113) C dX5_plan_67 (by decide) h (fun h => ?_) (fun h => ?_)
        · refine jv_sub [1, 2, 3, 4, 5] rfl ?_
          exact bk_X5_plan_113 C hr ih _ _ _ _ _ _ h
        · refine jv_iload_n C dX5_plan_70 rfl 3 rfl ?_
          refine jv_iload_n C dX5_plan_71 rfl 4 rfl ?_
          refine jv_aload_n C dX5_plan_72 rfl 1 rfl ?_
          refine jv_getR C fa_X5_9 dX5_plan_73 h (fun b11 h => ?_)
          refine jv_iload C dX5_plan_76 5 rfl ?_
          refine jv_iald C dX5_plan_78 h (fun v12 h => ?_)
          refine jv_iload C dX5_plan_79 0 rfl ?_
          refine jv_imul C dX5_plan_81 ?_
          refine jv_iadd C dX5_plan_82 ?_
          refine jv_mmin C gw_1124 gw_280 gw_98 gw_281 (by decide) (by decide) (Nat.le_of_ble_eq_true rfl) dX5_plan_83 ?_
          refine jv_nameI h (fun v13 h => ?_)
          refine jv_istore_n (lv' := [(3, .int v13), (5, .int v8), (0, .ref a0), (1, .ref a1), (2, .int x2), (4, .int x4)]) C dX5_plan_86 rfl (by decide) rfl ?_
          refine jv_aload_n C dX5_plan_87 rfl 2 rfl ?_
          refine jv_aload_n C dX5_plan_88 rfl 2 rfl ?_
          refine jv_getR C fa_X5_9 dX5_plan_89 h (fun b14 h => ?_)
          refine jv_iload C dX5_plan_92 5 rfl ?_
          refine jv_iald C dX5_plan_94 h (fun v15 h => ?_)
          refine jv_iload C dX5_plan_95 1 rfl ?_
          refine jv_aload_n C dX5_plan_97 rfl 2 rfl ?_
          refine jv_getL C fa_X5_50 dX5_plan_98 h (fun v16 h => ?_)
          refine jv_aload_n C dX5_plan_101 rfl 2 rfl ?_
          refine jv_getR C fa_X5_15 dX5_plan_102 h (fun b17 h => ?_)
          refine jv_iload C dX5_plan_105 5 rfl ?_
          refine jv_lald C dX5_plan_107 h (fun v18 h => ?_)
          refine jv_lsub C dX5_plan_108 ?_
          refine jv_iload_n C dX5_plan_109 rfl 0 rfl ?_
          refine jv_vV0 (As := [.int v15, .int v8, .long (v16 - v18), .int v13]) C lk_X5_65 rfl dX5_plan_110 rfl rfl (by decide) (by decide) (by decide) (Nat.le_of_ble_eq_true rfl) h (fun _ _ h => ct_X5_weighType h) (fun _ M19 h => ?_)
          refine jv_sub [2, 3, 4, 0, 5] rfl ?_
          exact bk_X5_plan_113 C hr ih _ _ _ _ _ _ h
def fn_X5_plan (N : Nat) (M : Mem) (a0 : Nat) (a1 : Nat) (x2 : Int32) : Option (Int32 × Mem) :=
  if x2 < 0 then
    some ((-2), M)
  else
    if x2 ≤ 5000 then
      (mm_gR M a0 5 2).bind fun b1 =>
      mm_b2 (fn_J7_fill_bad5a N M b1 0 ((x2 + 1)) ((-1))) fun _ M2 =>
      (mm_gR M2 a0 5 2).bind fun b3 =>
      (mm_sL M2 b3 0 0).bind fun M4 =>
      fn_X5_plan_40 N N M4 a0 a1 x2 0 0
    else
      some ((-2), M)
set_option maxRecDepth 100000 in
set_option maxHeartbeats 4000000 in
theorem ct_X5_plan {l : Launch} {ω : Wd} {k N : Nat} {M : Mem} {a0 : Nat} {a1 : Nat} {x2 : Int32} {r : Int32} {M' : Mem} (h : fn_X5_plan N M a0 a1 x2 = some (r, M')) : CM l ω k yX5_plan cX5_plan 6 (some .int) 3 0 0 [.ref a0, .ref a1, .int x2] M (some (.int r)) M' := by
  refine CM.of (by decide) (Nat.le_of_ble_eq_true rfl) fun Γ hl C hr hi => ?_
  subst hl
  unfold fn_X5_plan at h
  refine jv_iload_n C dX5_plan_0 rfl 2 rfl ?_
  refine jv_if_lt (tgt := 11) C dX5_plan_1 (by decide) h (fun h => ?_) (fun h => ?_)
  · refine jv_bipush (v := (-2)) C dX5_plan_11 (by decide) ?_
    exact jv_iret C hr dX5_plan_13 h
  · refine jv_iload_n C dX5_plan_4 rfl 2 rfl ?_
    refine jv_sipush (v := 5000) C dX5_plan_5 (by decide) ?_
    refine jv_icmp_le (tgt := 14) C dX5_plan_8 (by decide) h (fun h => ?_) (fun h => ?_)
    · refine jv_aload_n C dX5_plan_14 rfl 0 rfl ?_
      refine jv_getR C fa_X5_19 dX5_plan_15 h (fun b1 h => ?_)
      refine jv_iconst (v := 0) C dX5_plan_18 (by decide) ?_
      refine jv_iload_n C dX5_plan_19 rfl 2 rfl ?_
      refine jv_iconst (v := 1) C dX5_plan_20 (by decide) ?_
      refine jv_iadd C dX5_plan_21 ?_
      refine jv_ldc2 C gw_1120 dX5_plan_22 ?_
      refine jv_sV0 (As := [.ref b1, .int 0, .int (x2 + 1), .long (-1)]) C lk_X5_56 dX5_plan_25 rfl rfl (by decide) (by decide) (by decide) (Nat.le_of_ble_eq_true rfl) h (fun _ _ h => ct_J7_fill_bad5a h) (fun _ M2 h => ?_)
      refine jv_aload_n C dX5_plan_28 rfl 0 rfl ?_
      refine jv_getR C fa_X5_19 dX5_plan_29 h (fun b3 h => ?_)
      refine jv_iconst (v := 0) C dX5_plan_32 (by decide) ?_
      refine jv_lconst (v := 0) C dX5_plan_33 (by decide) ?_
      refine jv_last C dX5_plan_34 h (fun M4 h => ?_)
      refine jv_iconst (v := 0) C dX5_plan_35 (by decide) ?_
      refine jv_istore_n (lv' := [(3, .int 0), (0, .ref a0), (1, .ref a1), (2, .int x2)]) C dX5_plan_36 rfl (by decide) rfl ?_
      refine jv_iconst (v := 0) C dX5_plan_37 (by decide) ?_
      refine jv_istore (lv' := [(4, .int 0), (3, .int 0), (0, .ref a0), (1, .ref a1), (2, .int x2)]) C dX5_plan_38 (by decide) rfl ?_
      refine jv_sub [2, 3, 4, 1, 0] rfl ?_
      exact bk_X5_plan_40 C hr _ _ _ _ _ _ _ h
    · refine jv_bipush (v := (-2)) C dX5_plan_11 (by decide) ?_
      exact jv_iret C hr dX5_plan_13 h
theorem dX5_takeStock_0 : decode cX5_takeStock 0 = .ok (.aload_n 0, 1) := by decide +kernel
theorem dX5_takeStock_1 : decode cX5_takeStock 1 = .ok (.getfield 9, 3) := by decide +kernel
theorem dX5_takeStock_4 : decode cX5_takeStock 4 = .ok (.iconst 0, 1) := by decide +kernel
theorem dX5_takeStock_5 : decode cX5_takeStock 5 = .ok (.invokestatic 31, 3) := by decide +kernel
theorem dX5_takeStock_8 : decode cX5_takeStock 8 = .ok (.iconst 0, 1) := by decide +kernel
theorem dX5_takeStock_9 : decode cX5_takeStock 9 = .ok (.istore_n 3, 1) := by decide +kernel
theorem dX5_takeStock_10 : decode cX5_takeStock 10 = .ok (.iload_n 3, 1) := by decide +kernel
theorem dX5_takeStock_11 : decode cX5_takeStock 11 = .ok (.aload_n 2, 1) := by decide +kernel
theorem dX5_takeStock_12 : decode cX5_takeStock 12 = .ok (.getfield 37, 3) := by decide +kernel
theorem dX5_takeStock_15 : decode cX5_takeStock 15 = .ok (.if_icmp .ge 46, 3) := by decide +kernel
theorem dX5_takeStock_18 : decode cX5_takeStock 18 = .ok (.aload_n 1, 1) := by decide +kernel
theorem dX5_takeStock_19 : decode cX5_takeStock 19 = .ok (.getfield 41, 3) := by decide +kernel
theorem dX5_takeStock_22 : decode cX5_takeStock 22 = .ok (.iload_n 3, 1) := by decide +kernel
theorem dX5_takeStock_23 : decode cX5_takeStock 23 = .ok (.invokevirtual 46, 3) := by decide +kernel
theorem dX5_takeStock_26 : decode cX5_takeStock 26 = .ok (.istore 4, 2) := by decide +kernel
theorem dX5_takeStock_28 : decode cX5_takeStock 28 = .ok (.iload 4, 2) := by decide +kernel
theorem dX5_takeStock_30 : decode cX5_takeStock 30 = .ok (.ifCond .lt 25, 3) := by decide +kernel
theorem dX5_takeStock_33 : decode cX5_takeStock 33 = .ok (.iload 4, 2) := by decide +kernel
theorem dX5_takeStock_35 : decode cX5_takeStock 35 = .ok (.bipush 8, 2) := by decide +kernel
theorem dX5_takeStock_37 : decode cX5_takeStock 37 = .ok (.if_icmp .ge 18, 3) := by decide +kernel
theorem dX5_takeStock_40 : decode cX5_takeStock 40 = .ok (.aload_n 0, 1) := by decide +kernel
theorem dX5_takeStock_41 : decode cX5_takeStock 41 = .ok (.getfield 9, 3) := by decide +kernel
theorem dX5_takeStock_44 : decode cX5_takeStock 44 = .ok (.iload 4, 2) := by decide +kernel
theorem dX5_takeStock_46 : decode cX5_takeStock 46 = .ok (.dup2, 1) := by decide +kernel
theorem dX5_takeStock_47 : decode cX5_takeStock 47 = .ok (.iaload, 1) := by decide +kernel
theorem dX5_takeStock_48 : decode cX5_takeStock 48 = .ok (.aload_n 2, 1) := by decide +kernel
theorem dX5_takeStock_49 : decode cX5_takeStock 49 = .ok (.iload_n 3, 1) := by decide +kernel
theorem dX5_takeStock_50 : decode cX5_takeStock 50 = .ok (.invokevirtual 46, 3) := by decide +kernel
theorem dX5_takeStock_53 : decode cX5_takeStock 53 = .ok (.iadd, 1) := by decide +kernel
theorem dX5_takeStock_54 : decode cX5_takeStock 54 = .ok (.iastore, 1) := by decide +kernel
theorem dX5_takeStock_55 : decode cX5_takeStock 55 = .ok (.iinc 3 1, 3) := by decide +kernel
theorem dX5_takeStock_58 : decode cX5_takeStock 58 = .ok (.goto (-48), 3) := by decide +kernel
theorem dX5_takeStock_61 : decode cX5_takeStock 61 = .ok (.aload_n 0, 1) := by decide +kernel
theorem dX5_takeStock_62 : decode cX5_takeStock 62 = .ok (.lconst 1, 1) := by decide +kernel
theorem dX5_takeStock_63 : decode cX5_takeStock 63 = .ok (.putfield 50, 3) := by decide +kernel
theorem dX5_takeStock_66 : decode cX5_takeStock 66 = .ok (.bipush 7, 2) := by decide +kernel
theorem dX5_takeStock_68 : decode cX5_takeStock 68 = .ok (.istore_n 3, 1) := by decide +kernel
theorem dX5_takeStock_69 : decode cX5_takeStock 69 = .ok (.iload_n 3, 1) := by decide +kernel
theorem dX5_takeStock_70 : decode cX5_takeStock 70 = .ok (.ifCond .lt 37, 3) := by decide +kernel
theorem dX5_takeStock_73 : decode cX5_takeStock 73 = .ok (.aload_n 0, 1) := by decide +kernel
theorem dX5_takeStock_74 : decode cX5_takeStock 74 = .ok (.getfield 15, 3) := by decide +kernel
theorem dX5_takeStock_77 : decode cX5_takeStock 77 = .ok (.iload_n 3, 1) := by decide +kernel
theorem dX5_takeStock_78 : decode cX5_takeStock 78 = .ok (.aload_n 0, 1) := by decide +kernel
theorem dX5_takeStock_79 : decode cX5_takeStock 79 = .ok (.getfield 50, 3) := by decide +kernel
theorem dX5_takeStock_82 : decode cX5_takeStock 82 = .ok (.lastore, 1) := by decide +kernel
theorem dX5_takeStock_83 : decode cX5_takeStock 83 = .ok (.aload_n 0, 1) := by decide +kernel
theorem dX5_takeStock_84 : decode cX5_takeStock 84 = .ok (.dup, 1) := by decide +kernel
theorem dX5_takeStock_85 : decode cX5_takeStock 85 = .ok (.getfield 50, 3) := by decide +kernel
theorem dX5_takeStock_88 : decode cX5_takeStock 88 = .ok (.aload_n 0, 1) := by decide +kernel
theorem dX5_takeStock_89 : decode cX5_takeStock 89 = .ok (.getfield 9, 3) := by decide +kernel
theorem dX5_takeStock_92 : decode cX5_takeStock 92 = .ok (.iload_n 3, 1) := by decide +kernel
theorem dX5_takeStock_93 : decode cX5_takeStock 93 = .ok (.iaload, 1) := by decide +kernel
theorem dX5_takeStock_94 : decode cX5_takeStock 94 = .ok (.iconst 1, 1) := by decide +kernel
theorem dX5_takeStock_95 : decode cX5_takeStock 95 = .ok (.iadd, 1) := by decide +kernel
theorem dX5_takeStock_96 : decode cX5_takeStock 96 = .ok (.i2l, 1) := by decide +kernel
theorem dX5_takeStock_97 : decode cX5_takeStock 97 = .ok (.lmul, 1) := by decide +kernel
theorem dX5_takeStock_98 : decode cX5_takeStock 98 = .ok (.putfield 50, 3) := by decide +kernel
theorem dX5_takeStock_101 : decode cX5_takeStock 101 = .ok (.iinc 3 (-1), 3) := by decide +kernel
theorem dX5_takeStock_104 : decode cX5_takeStock 104 = .ok (.goto (-35), 3) := by decide +kernel
theorem dX5_takeStock_107 : decode cX5_takeStock 107 = .ok (.return_, 1) := by decide +kernel
def fn_X5_takeStock_69 (N : Nat) : Nat → Mem → Nat → Int32 → Option (Unit × Mem)
  | 0, _, _, _ => none
  | n + 1, M, a0, x3 =>
    if x3 < 0 then
      some ((), M)
    else
      (mm_gR M a0 5 1).bind fun b1 =>
      (mm_gL M a0 5 3).bind fun v2 =>
      (mm_sL M b1 x3 v2).bind fun M3 =>
      (mm_gL M3 a0 5 3).bind fun v4 =>
      (mm_gR M3 a0 5 0).bind fun b5 =>
      (mm_aI M3 b5 0 x3).bind fun v6 =>
      (mm_pV M3 a0 5 3 (.long (v4 * (Int32.toInt64 (v6 + 1))))).bind fun M7 =>
      fn_X5_takeStock_69 N n M7 a0 ((x3 + (-1)))
set_option maxRecDepth 100000 in
set_option maxHeartbeats 4000000 in
theorem bk_X5_takeStock_69 {Γ : Gm} {ω : Wd} {k N : Nat} {r : Unit} {M' : Mem} (C : Cx Γ cX5_takeStock 5 RX5 ω 1 0 0) (hr : Γ.meth.sig.returnType = none) : ∀ (n : Nat) (M : Mem) (a0 : Nat) (x3 : Int32), fn_X5_takeStock_69 N n M a0 x3 = some (r, M') → JJ Γ (QF Γ ω k 0 0 none M') 5 ω k M 0 0 69 [(0, .ref a0), (3, .int x3)] [] := by
  intro n
  induction n with
  | zero => intro M a0 x3 h; exact jv_no h
  | succ n ih =>
    intro M a0 x3 h
    rw [fn_X5_takeStock_69.eq_2] at h
    refine jv_iload_n C dX5_takeStock_69 rfl 1 rfl ?_
    refine jv_if_lt (tgt := 107) C dX5_takeStock_70 (by decide) h (fun h => ?_) (fun h => ?_)
    · exact jv_vret C hr dX5_takeStock_107 h
    · refine jv_aload_n C dX5_takeStock_73 rfl 0 rfl ?_
      refine jv_getR C fa_X5_15 dX5_takeStock_74 h (fun b1 h => ?_)
      refine jv_iload_n C dX5_takeStock_77 rfl 1 rfl ?_
      refine jv_aload_n C dX5_takeStock_78 rfl 0 rfl ?_
      refine jv_getL C fa_X5_50 dX5_takeStock_79 h (fun v2 h => ?_)
      refine jv_last C dX5_takeStock_82 h (fun M3 h => ?_)
      refine jv_aload_n C dX5_takeStock_83 rfl 0 rfl ?_
      refine jv_dup C dX5_takeStock_84 rfl ?_
      refine jv_getL C fa_X5_50 dX5_takeStock_85 h (fun v4 h => ?_)
      refine jv_aload_n C dX5_takeStock_88 rfl 0 rfl ?_
      refine jv_getR C fa_X5_9 dX5_takeStock_89 h (fun b5 h => ?_)
      refine jv_iload_n C dX5_takeStock_92 rfl 1 rfl ?_
      refine jv_iald C dX5_takeStock_93 h (fun v6 h => ?_)
      refine jv_iconst (v := 1) C dX5_takeStock_94 (by decide) ?_
      refine jv_iadd C dX5_takeStock_95 ?_
      refine jv_i2l C dX5_takeStock_96 ?_
      refine jv_lmul C dX5_takeStock_97 ?_
      refine jv_putL C fp_X5_50 dX5_takeStock_98 h (fun M7 h => ?_)
      refine jv_iinc (v := (-1)) (lv' := [(3, .int (x3 + (-1))), (0, .ref a0)]) C dX5_takeStock_101 1 rfl (by decide) (by decide) rfl ?_
      refine jv_goto (tgt := 69) C dX5_takeStock_104 (by decide) ?_
      refine jv_sub [1, 0] rfl ?_
      exact ih _ _ _ h
def fn_X5_takeStock_55 (N : Nat) (K10 : Mem → Nat → Nat → Nat → Int32 → Option (Unit × Mem)) (M : Mem) (a0 : Nat) (a1 : Nat) (a2 : Nat) (x3 : Int32) : Option (Unit × Mem) :=
  K10 M a0 a1 a2 ((x3 + 1))
set_option maxRecDepth 100000 in
set_option maxHeartbeats 4000000 in
theorem bk_X5_takeStock_55 {Γ : Gm} {ω : Wd} {k N : Nat} {r : Unit} {M' : Mem} (C : Cx Γ cX5_takeStock 5 RX5 ω 1 0 0) (hr : Γ.meth.sig.returnType = none) {K10 : Mem → Nat → Nat → Nat → Int32 → Option (Unit × Mem)} (hK10 : ∀ (M : Mem) (a0 : Nat) (a1 : Nat) (a2 : Nat) (x3 : Int32), K10 M a0 a1 a2 x3 = some (r, M') → JJ Γ (QF Γ ω k 0 0 none M') 5 ω k M 0 0 10 [(0, .ref a0), (1, .ref a1), (2, .ref a2), (3, .int x3)] []) (M : Mem) (a0 : Nat) (a1 : Nat) (a2 : Nat) (x3 : Int32) (h : fn_X5_takeStock_55 N K10 M a0 a1 a2 x3 = some (r, M')) : JJ Γ (QF Γ ω k 0 0 none M') 5 ω k M 0 0 55 [(0, .ref a0), (1, .ref a1), (2, .ref a2), (3, .int x3)] [] := by
  unfold fn_X5_takeStock_55 at h
  refine jv_iinc (v := 1) (lv' := [(3, .int (x3 + 1)), (0, .ref a0), (1, .ref a1), (2, .ref a2)]) C dX5_takeStock_55 3 rfl (by decide) (by decide) rfl ?_
  refine jv_goto (tgt := 10) C dX5_takeStock_58 (by decide) ?_
  refine jv_sub [1, 2, 3, 0] rfl ?_
  exact hK10 _ _ _ _ _ h
def fn_X5_takeStock_10 (N : Nat) : Nat → Mem → Nat → Nat → Nat → Int32 → Option (Unit × Mem)
  | 0, _, _, _, _, _ => none
  | n + 1, M, a0, a1, a2, x3 =>
    (mm_gI M a2 6 1).bind fun v1 =>
    if v1 ≤ x3 then
      (mm_pV M a0 5 3 (.long 1)).bind fun M2 =>
      fn_X5_takeStock_69 N N M2 a0 7
    else
      (mm_gR M a1 0 2).bind fun b3 =>
      (mm_ck M b3 6).bind fun _ => mm_b2 (fn_X6_at N M b3 x3) fun v5 M4 =>
      if v5 < 0 then
        fn_X5_takeStock_55 N (fn_X5_takeStock_10 N n) M4 a0 a1 a2 x3
      else
        if 8 ≤ v5 then
          fn_X5_takeStock_55 N (fn_X5_takeStock_10 N n) M4 a0 a1 a2 x3
        else
          (mm_gR M4 a0 5 0).bind fun b6 =>
          (mm_aI M4 b6 0 v5).bind fun v7 =>
          (mm_ck M4 a2 6).bind fun _ => mm_b2 (fn_X6_at N M4 a2 x3) fun v9 M8 =>
          (mm_sI M8 b6 0 v5 (v7 + v9)).bind fun M10 =>
          fn_X5_takeStock_55 N (fn_X5_takeStock_10 N n) M10 a0 a1 a2 x3
set_option maxRecDepth 100000 in
set_option maxHeartbeats 4000000 in
theorem bk_X5_takeStock_10 {Γ : Gm} {ω : Wd} {k N : Nat} {r : Unit} {M' : Mem} (C : Cx Γ cX5_takeStock 5 RX5 ω 1 0 0) (hr : Γ.meth.sig.returnType = none) : ∀ (n : Nat) (M : Mem) (a0 : Nat) (a1 : Nat) (a2 : Nat) (x3 : Int32), fn_X5_takeStock_10 N n M a0 a1 a2 x3 = some (r, M') → JJ Γ (QF Γ ω k 0 0 none M') 5 ω k M 0 0 10 [(0, .ref a0), (1, .ref a1), (2, .ref a2), (3, .int x3)] [] := by
  intro n
  induction n with
  | zero => intro M a0 a1 a2 x3 h; exact jv_no h
  | succ n ih =>
    intro M a0 a1 a2 x3 h
    rw [fn_X5_takeStock_10.eq_2] at h
    refine jv_iload_n C dX5_takeStock_10 rfl 3 rfl ?_
    refine jv_aload_n C dX5_takeStock_11 rfl 2 rfl ?_
    refine jv_getI C fa_X5_37 dX5_takeStock_12 h (fun v1 h => ?_)
    refine jv_icmp_ge (tgt := 61) C dX5_takeStock_15 (by decide) h (fun h => ?_) (fun h => ?_)
    · refine jv_aload_n C dX5_takeStock_61 rfl 0 rfl ?_
      refine jv_lconst (v := 1) C dX5_takeStock_62 (by decide) ?_
      refine jv_putL C fp_X5_50 dX5_takeStock_63 h (fun M2 h => ?_)
      refine jv_bipush (v := 7) C dX5_takeStock_66 (by decide) ?_
      refine jv_istore_n (lv' := [(3, .int 7), (0, .ref a0), (1, .ref a1), (2, .ref a2)]) C dX5_takeStock_68 rfl (by decide) rfl ?_
      refine jv_sub [1, 0] rfl ?_
      exact bk_X5_takeStock_69 C hr _ _ _ _ h
    · refine jv_aload_n C dX5_takeStock_18 rfl 1 rfl ?_
      refine jv_getR C fa_X5_41 dX5_takeStock_19 h (fun b3 h => ?_)
      refine jv_iload_n C dX5_takeStock_22 rfl 3 rfl ?_
      refine jv_vI0 (As := [.int x3]) C lk_X5_46 rfl dX5_takeStock_23 rfl rfl (by decide) (by decide) (by decide) (Nat.le_of_ble_eq_true rfl) h (fun _ _ h => ct_X6_at h) (fun v5 M4 h => ?_)
      refine jv_istore (lv' := [(4, .int v5), (0, .ref a0), (1, .ref a1), (2, .ref a2), (3, .int x3)]) C dX5_takeStock_26 (by decide) rfl ?_
      refine jv_iload C dX5_takeStock_28 0 rfl ?_
      refine jv_if_lt (tgt := 55) C dX5_takeStock_30 (by decide) h (fun h => ?_) (fun h => ?_)
      · refine jv_sub [1, 2, 3, 4] rfl ?_
        exact bk_X5_takeStock_55 C hr ih _ _ _ _ _ h
      · refine jv_iload C dX5_takeStock_33 0 rfl ?_
        refine jv_bipush (v := 8) C dX5_takeStock_35 (by decide) ?_
        refine jv_icmp_ge (tgt := 55) C dX5_takeStock_37 (by decide) h (fun h => ?_) (fun h => ?_)
        · refine jv_sub [1, 2, 3, 4] rfl ?_
          exact bk_X5_takeStock_55 C hr ih _ _ _ _ _ h
        · refine jv_aload_n C dX5_takeStock_40 rfl 1 rfl ?_
          refine jv_getR C fa_X5_9 dX5_takeStock_41 h (fun b6 h => ?_)
          refine jv_iload C dX5_takeStock_44 0 rfl ?_
          refine jv_dup2 C dX5_takeStock_46 rfl rfl ?_
          refine jv_iald C dX5_takeStock_47 h (fun v7 h => ?_)
          refine jv_aload_n C dX5_takeStock_48 rfl 3 rfl ?_
          refine jv_iload_n C dX5_takeStock_49 rfl 4 rfl ?_
          refine jv_vI0 (As := [.int x3]) C lk_X5_46 rfl dX5_takeStock_50 rfl rfl (by decide) (by decide) (by decide) (Nat.le_of_ble_eq_true rfl) h (fun _ _ h => ct_X6_at h) (fun v9 M8 h => ?_)
          refine jv_iadd C dX5_takeStock_53 ?_
          refine jv_iast C dX5_takeStock_54 h (fun M10 h => ?_)
          refine jv_sub [1, 2, 3, 4] rfl ?_
          exact bk_X5_takeStock_55 C hr ih _ _ _ _ _ h
def fn_X5_takeStock (N : Nat) (M : Mem) (a0 : Nat) (a1 : Nat) (a2 : Nat) : Option (Unit × Mem) :=
  (mm_gR M a0 5 0).bind fun b1 =>
  mm_b2 (fn_J7_fill_53178 N M b1 0) fun _ M2 =>
  fn_X5_takeStock_10 N N M2 a0 a1 a2 0
set_option maxRecDepth 100000 in
set_option maxHeartbeats 4000000 in
theorem ct_X5_takeStock {l : Launch} {ω : Wd} {k N : Nat} {M : Mem} {a0 : Nat} {a1 : Nat} {a2 : Nat} {r : Unit} {M' : Mem} (h : fn_X5_takeStock N M a0 a1 a2 = some (r, M')) : CM l ω k yX5_takeStock cX5_takeStock 5 none 1 0 0 [.ref a0, .ref a1, .ref a2] M none M' := by
  refine CM.of (by decide) (Nat.le_of_ble_eq_true rfl) fun Γ hl C hr hi => ?_
  subst hl
  unfold fn_X5_takeStock at h
  refine jv_aload_n C dX5_takeStock_0 rfl 0 rfl ?_
  refine jv_getR C fa_X5_9 dX5_takeStock_1 h (fun b1 h => ?_)
  refine jv_iconst (v := 0) C dX5_takeStock_4 (by decide) ?_
  refine jv_sV0 (As := [.ref b1, .int 0]) C lk_X5_31 dX5_takeStock_5 rfl rfl (by decide) (by decide) (by decide) (Nat.le_of_ble_eq_true rfl) h (fun _ _ h => ct_J7_fill_53178 h) (fun _ M2 h => ?_)
  refine jv_iconst (v := 0) C dX5_takeStock_8 (by decide) ?_
  refine jv_istore_n (lv' := [(3, .int 0), (0, .ref a0), (1, .ref a1), (2, .ref a2)]) C dX5_takeStock_9 rfl (by decide) rfl ?_
  refine jv_sub [1, 2, 3, 0] rfl ?_
  exact bk_X5_takeStock_10 C hr _ _ _ _ _ _ h
