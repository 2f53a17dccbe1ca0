/-! PURE: both objects as they are made -/
def Pw (M M' : Mem) (lo hi : Nat) : Prop := ∀ b, lo ≤ b → b < hi → M'[b]? = M[b]?
theorem RowAt.pw {M M' : Mem} {a c : Nat} {l : List Int32} (h : RowAt M a c l) (p : Pw M M' a (a + 2)) : RowAt M' a c l := h.pt (p a (by omega) (by omega)) (p (a + 1) (by omega) (by omega))
theorem Pw.sub {M M' : Mem} {lo hi lo' hi' : Nat} (p : Pw M M' lo hi) (h1 : lo ≤ lo') (h2 : hi' ≤ hi) : Pw M M' lo' hi' := fun b a1 a2 => p b (by omega) (by omega)
theorem StAt.pw {M M' : Mem} {s : Nat} {σ : St} (h : StAt M s σ) (p : Pw M M' s (s + 21)) : StAt M' s σ := ⟨by rw [p s (by omega) (by omega)]; exact h.1, h.2.1, fun r hr => (h.2.2 r hr).pw (p.sub (by omega) (by omega))⟩
theorem CfAt.pw {M M' : Mem} {c : Nat} {κ : Cf} (h : CfAt M c κ) (p : Pw M M' c (c + 27)) : CfAt M' c κ := ⟨by rw [p c (by omega) (by omega)]; exact h.1, by rw [p (c + 1) (by omega) (by omega)]; exact h.2.1, by rw [p (c + 12) (by omega) (by omega)]; exact h.2.2.1, h.r0.pw (p.sub (by omega) (by omega)), h.r1.pw (p.sub (by omega) (by omega)), h.r2.pw (p.sub (by omega) (by omega)), h.r3.pw (p.sub (by omega) (by omega)), h.r4.pw (p.sub (by omega) (by omega)), h.r5.pw (p.sub (by omega) (by omega)), h.r6.pw (p.sub (by omega) (by omega)), h.r7.pw (p.sub (by omega) (by omega)), h.r8.pw (p.sub (by omega) (by omega)), h.r9.pw (p.sub (by omega) (by omega)), h.r10.pw (p.sub (by omega) (by omega)), h.r11.pw (p.sub (by omega) (by omega))⟩
theorem HiAt.pw {M M' : Mem} {U : List St} (h : HiAt M U) (p : Pw M M' 79 333) : HiAt M' U := by
  obtain ⟨old, hs, f, h1, h2, h3, h4, h5⟩ := h
  exact ⟨old, hs, f, by rw [p 79 (by omega) (by omega)]; exact h1, by rw [p 80 (by omega) (by omega)]; exact h2, h3, fun j hj => (h4 j hj).pw (p.sub (by omega) (by omega)), h5⟩
theorem SlAt.pw {M M' : Mem} {sn : Nat → Option St} (h : SlAt M sn) (p : Pw M M' 333 377) : SlAt M' sn := by
  obtain ⟨f, v, h1, h2, h3, h4, ⟨t, h5, h6⟩, ⟨u, h7, h8⟩⟩ := h
  exact ⟨f, v, by rw [p 333 (by omega) (by omega)]; exact h1, h2, h3, by rw [p 376 (by omega) (by omega)]; exact h4, ⟨t, h5.pw (p.sub (by omega) (by omega)), h6⟩, ⟨u, h7.pw (p.sub (by omega) (by omega)), h8⟩⟩
theorem ScAt.pw {M M' : Mem} (h : ScAt M) (p : Pw M M' 0 389) : ScAt M' := by
  obtain ⟨h1, h2, h3, h4, h5, h6, ⟨l, h7⟩, h8, ⟨l2, h9⟩, ⟨l3, h10⟩⟩ := h
  exact ⟨by rw [p 2 (by omega) (by omega)]; exact h1, by rw [p 377 (by omega) (by omega)]; exact h2, by rw [p 378 (by omega) (by omega)]; exact h3, by rw [p 379 (by omega) (by omega)]; exact h4, by rw [p 380 (by omega) (by omega)]; exact h5, by rw [p 381 (by omega) (by omega)]; exact h6, ⟨l, h7.pw (p.sub (by omega) (by omega))⟩, by rw [p 384 (by omega) (by omega)]; exact h8, ⟨l2, h9.pw (p.sub (by omega) (by omega))⟩, ⟨l3, h10.pw (p.sub (by omega) (by omega))⟩⟩
theorem XAt.pw {M M' : Mem} {bf : List Int32} {κ : Cf} {σ : St} {U : List St} {sn : Nat → Option St} (h : XAt M bf κ σ U sn) (p : Pw M M' 0 389) : XAt M' bf κ σ U sn := by
  obtain ⟨cf, sp, κ', h1, h2, ⟨g, b1, b2⟩, h4, h5, h6, h7, h8, h9⟩ := h
  exact ⟨cf, sp, κ', by rw [p 0 (by omega) (by omega)]; exact h1, h2, ⟨g, by rw [p 1 (by omega) (by omega)]; exact b1, b2⟩, h4.pw (p.sub (by omega) (by omega)), h5.pw (p.sub (by omega) (by omega)), h6.pw (p.sub (by omega) (by omega)), h7.pw (p.sub (by omega) (by omega)), h8.pw (p.sub (by omega) (by omega)), h9.pw p⟩
theorem MAt.pw {M M' : Mem} {F : Nat → Int32} {A : Nat → Nat → Int32} (h : MAt M F A) (p : Pw M M' 389 404) : MAt M' F A := by
  refine ⟨?_, ?_, ?_, ?_, ?_, ?_, ?_, ?_, ?_, ?_, ?_, ?_, ?_, ?_, ?_⟩
  · rw [p 389 (by omega) (by omega)]; exact h.o
  · rw [p 390 (by omega) (by omega)]; exact h.c1
  · rw [p 391 (by omega) (by omega)]; exact h.c10
  · rw [p 392 (by omega) (by omega)]; exact h.c11
  · rw [p 393 (by omega) (by omega)]; exact h.c12
  · rw [p 394 (by omega) (by omega)]; exact h.c13
  · rw [p 395 (by omega) (by omega)]; exact h.c14
  · rw [p 396 (by omega) (by omega)]; exact h.c16
  · rw [p 397 (by omega) (by omega)]; exact h.c17
  · rw [p 398 (by omega) (by omega)]; exact h.c19
  · rw [p 399 (by omega) (by omega)]; exact h.c20
  · rw [p 400 (by omega) (by omega)]; exact h.c25
  · rw [p 401 (by omega) (by omega)]; exact h.c26
  · rw [p 402 (by omega) (by omega)]; exact h.c27
  · rw [p 403 (by omega) (by omega)]; exact h.c28
theorem obj_fld {M M1 : Mem} {a ci j k : Nat} {fs : List Value} {c0 : mE} {ini : Mem → Nat → Option (Unit × Mem)} (h : M[a]? = some (.inr (ci, fs))) (hj : j < fs.length) (e : ini (M ++ [c0]) M.length = some ((), M1)) (g : Gw (M ++ [c0]) M1 M.length k) : ∃ M', (∀ (ρ : Type) (K : Mem → Option ρ), (mm_nm M.length (M ++ [c0]) fun b1 M2 => mm_b2 (ini M2 b1) fun _ M3 => (mm_pV M3 a ci j (.ref b1)).bind K) = K M') ∧ M'[a]? = some (.inr (ci, fs.set j (.ref M.length))) ∧ Gw M M' a (k + 1) ∧ Fr M1 M' a (a + 1) := by
  have ha := lt_of_some h
  have h1 : M1[a]? = some (.inr (ci, fs)) := by rw [g.2 a (by rw [ap_len]; omega) (by omega), ap_lt ha]; exact h
  obtain ⟨M2, e2, k2, f2⟩ := pv_step (j := j) (v := .ref M.length) h1 hj
  refine ⟨M2, fun ρ K => ?_, k2, ⟨by rw [f2.1, g.1, ap_len]; omega, fun b hb hn => by rw [f2.2 b (by omega), g.2 b (by rw [ap_len]; omega) (by omega), ap_lt hb]⟩, f2⟩
  rw [nms, e, b2s, e2, obs]
theorem arr_fld {M : Mem} {a ci j n lim : Nat} {fs : List Value} {x : Int32} {e : Nat → mE} (h : M[a]? = some (.inr (ci, fs))) (hj : j < fs.length) (hx : x = nI n) (hn : n ≤ lim) (hl : n < 2 ^ 31) : ∃ M', (∀ (ρ : Type) (K : Mem → Option ρ), (mm_b2 (mm_nA M lim x e) fun b1 M2 => (mm_pV M2 a ci j (.ref b1)).bind K) = K M') ∧ M'[a]? = some (.inr (ci, fs.set j (.ref M.length))) ∧ M'[M.length]? = some (e n) ∧ Gw M M' a 1 := by
  have ha := lt_of_some h
  have h1 : (M ++ [e n])[a]? = some (.inr (ci, fs)) := by rw [ap_lt ha]; exact h
  obtain ⟨M2, e2, k2, f2⟩ := pv_step (j := j) (v := .ref M.length) h1 hj
  refine ⟨M2, fun ρ K => ?_, k2, by rw [f2.2 _ (by omega)]; exact ap_eq, ⟨by rw [f2.1, ap_len], fun b hb hn => by rw [f2.2 b (by omega), ap_lt hb]⟩⟩
  rw [ev_nA hx hn hl, b2s, e2, obs]
section CX
variable {N : Nat}
theorem new_pa {M : Mem} {a : Nat} (h : M[a]? = some (.inr (4, [.null, .int 0, .int 0, .int 0, .int 0, .int 0, .int 0, .int 0, .int 0]))) : ∃ M', fn_X4_init N M a = some ((), M') ∧ M'[a]? = some (.inr (4, [.ref M.length, .int 0, .int 0, .int 0, .int 0, .int 0, .int 0, .int 0, .int 0])) ∧ Gw M M' a 1 := by
  unfold fn_X4_init
  obtain ⟨M1, e1, k1, c1, g1⟩ := arr_fld (M := M) (j := 0) (n := 0) (lim := 0) (x := 0) (e := fun N => .inl (2, N, .inl (fun _ => 0))) h (by simp) rfl (by omega) (by omega)
  rw [e1]
  exact ⟨M1, rfl, k1, g1⟩
theorem new_py {M : Mem} {a : Nat} (h : M[a]? = some (.inr (5, [.null, .null, .null, .long 0, .null]))) (hl : M.length = a + 1) : ∃ M', fn_X5_init N M a = some ((), M') ∧ M'[a]? = some (.inr (5, [.ref (a + 1), .ref (a + 2), .ref (a + 3), .long 0, .ref (a + 4)])) ∧ M'[a + 1]? = some (.inl (0, 8, .inl (fun _ => 0))) ∧ M'[a + 2]? = some (.inl (1, 8, .inr (.inl (fun _ => 0)))) ∧ M'[a + 3]? = some (.inl (1, 5001, .inr (.inl (fun _ => 0)))) ∧ RowAt M' (a + 4) 8 [] ∧ Gw M M' a 5 := by
  unfold fn_X5_init
  obtain ⟨M1, e1, k1, c1, g1⟩ := arr_fld (M := M) (j := 0) (n := 8) (lim := 8) (x := 8) (e := fun N => .inl (0, N, .inl (fun _ => 0))) h (by simp) rfl (by omega) (by omega)
  rw [e1]
  have l1 : M1.length = a + 2 := by rw [g1.1, hl]
  rw [hl] at k1 c1
  obtain ⟨M2, e2, k2, c2, g2⟩ := arr_fld (M := M1) (j := 1) (n := 8) (lim := 8) (x := 8) (e := fun N => .inl (1, N, .inr (.inl (fun _ => 0)))) k1 (by simp) rfl (by omega) (by omega)
  rw [e2]
  have l2 : M2.length = a + 3 := by rw [g2.1, l1]
  rw [l1] at k2 c2
  obtain ⟨M3, e3, k3, c3, g3⟩ := arr_fld (M := M2) (j := 2) (n := 5001) (lim := 5001) (x := 5001) (e := fun N => .inl (1, N, .inr (.inl (fun _ => 0)))) k2 (by simp) rfl (by omega) (by omega)
  rw [e3]
  have l3 : M3.length = a + 4 := by rw [g3.1, l2]
  rw [l2] at k3 c3
  obtain ⟨M4, e4, k4, r4, g4⟩ := row_fld (N := N) (j := 4) (c := 8) (x := 8) k3 (by simp) rfl (by omega)
  rw [e4]
  rw [l3] at k4 r4
  refine ⟨M4, rfl, k4, ?_, ?_, ?_, r4, g1.tr (g2.tr (g3.tr g4))⟩
  · rw [(g2.tr (g3.tr g4)).2 (a + 1) (by omega) (by omega)]; exact c1
  · rw [(g3.tr g4).2 (a + 2) (by omega) (by omega)]; exact c2
  · rw [g4.2 (a + 3) (by omega) (by omega)]; exact c3
theorem new_tu {M : Mem} {a : Nat} (h : M[a]? = some (.inr (8, [.null, .null]))) (hl : M.length = a + 1) : ∃ M', fn_X8_init N M a = some ((), M') ∧ M'[a]? = some (.inr (8, [.ref (a + 1), .ref (a + 3)])) ∧ RowAt M' (a + 1) 40 [] ∧ RowAt M' (a + 3) 40 [] ∧ Gw M M' a 4 := by
  unfold fn_X8_init
  obtain ⟨M1, e1, k1, r1, g1⟩ := row_fld (N := N) (j := 0) (c := 40) (x := 40) h (by simp) rfl (by omega)
  rw [e1]
  have l1 : M1.length = a + 3 := by rw [g1.1, hl]
  rw [hl] at k1 r1
  obtain ⟨M2, e2, k2, r2, g2⟩ := row_fld (N := N) (j := 1) (c := 40) (x := 40) k1 (by simp) rfl (by omega)
  rw [e2]
  rw [l1] at k2 r2
  exact ⟨M2, rfl, k2, r1.gw g2 (by omega), r2, g1.tr g2⟩
theorem ap_at {M : Mem} {e : mE} {n : Nat} (h : M.length = n) : (M ++ [e])[n]? = some e := by subst h; exact ap_eq
theorem ap_ln {M : Mem} {e : mE} {n : Nat} (h : M.length = n) : (M ++ [e]).length = n + 1 := by rw [ap_len, h]
theorem x_init (hN : 2 ^ 15 ≤ N) {M : Mem} (h : M[0]? = some (.inr (9, [.null, .int 0, .null, .null, .null, .null, .null, .null, .null, .null, .null, .null]))) (hl : M.length = 1) : ∃ M', fn_X9_init N M 0 = some ((), M') ∧ XAt M' [] kf0 (st0 kf0) [] (fun _ => none) ∧ M'.length = 389 := by
  unfold fn_X9_init
  obtain ⟨M1, e1, k1, c1, g1⟩ := arr_fld (M := M) (j := 0) (n := 800) (lim := 800) (x := 800) (e := fun N => .inl (2, N, .inl (fun _ => 0))) h (by simp) rfl (by omega) (by omega)
  rw [e1]
  have l1 : M1.length = 2 := by rw [g1.1, hl]
  rw [hl] at k1 c1
  obtain ⟨P2, i2, n2, y2⟩ := new_pa (N := N) (M := M1 ++ [.inr (4, [.null, .int 0, .int 0, .int 0, .int 0, .int 0, .int 0, .int 0, .int 0])]) (a := 2) (ap_at l1)
  rw [← l1] at i2 y2
  obtain ⟨M2, e2, k2, g2, f2⟩ := obj_fld (ini := fn_X4_init N) (j := 2) k1 (by simp) i2 y2
  rw [e2]
  have l2 : M2.length = 4 := by rw [g2.1, l1]
  rw [l1] at k2
  have c2 := n2
  rw [← f2.2 2 (by omega)] at c2
  obtain ⟨P3, i3, q3, y3⟩ := new_cf (N := N) (M := M2 ++ [.inr (0, [.null, .null, .null, .null, .int 0, .int 0, .int 0])]) (a := 4) (ap_at l2) (ap_ln l2)
  rw [← l2] at i3 y3
  obtain ⟨M3, e3, k3, g3, f3⟩ := obj_fld (ini := fn_X0_init N) (j := 3) k2 (by simp) i3 y3
  rw [e3]
  have l3 : M3.length = 31 := by rw [g3.1, l2]
  rw [l2] at k3
  have c3 := q3.keep f3 (by omega)
  obtain ⟨P4, i4, q4, y4⟩ := new_cf (N := N) (M := M3 ++ [.inr (0, [.null, .null, .null, .null, .int 0, .int 0, .int 0])]) (a := 31) (ap_at l3) (ap_ln l3)
  rw [← l3] at i4 y4
  obtain ⟨M4, e4, k4, g4, f4⟩ := obj_fld (ini := fn_X0_init N) (j := 4) k3 (by simp) i4 y4
  rw [e4]
  have l4 : M4.length = 58 := by rw [g4.1, l3]
  rw [l3] at k4
  have c4 := q4.keep f4 (by omega)
  obtain ⟨P5, i5, q5, y5⟩ := new_st (N := N) (M := M4 ++ [.inr (7, [.int 0, .int 0, .int 0, .int 0, .int 0, .null, .null, .null, .null, .null, .null, .null, .null, .null, .null])]) (a := 58) hN (ap_at l4) (ap_ln l4)
  rw [← l4] at i5 y5
  obtain ⟨M5, e5, k5, g5, f5⟩ := obj_fld (ini := fn_X7_init N) (j := 5) k4 (by simp) i5 y5
  rw [e5]
  have l5 : M5.length = 79 := by rw [g5.1, l4]
  rw [l4] at k5
  have c5 := q5.keep f5 (by omega)
  obtain ⟨P6, i6, q6, y6⟩ := new_hi (N := N) (M := M5 ++ [.inr (1, [.null, .int 0, .int 0])]) hN (ap_at l5) (ap_ln l5)
  have i6' : fn_X1_init N (M5 ++ [.inr (1, [.null, .int 0, .int 0])]) M5.length = some ((), P6) := by rw [l5]; exact i6
  rw [← l5] at y6
  obtain ⟨M6, e6, k6, g6, f6⟩ := obj_fld (ini := fn_X1_init N) (j := 6) k5 (by simp) i6' y6
  rw [e6]
  have l6 : M6.length = 333 := by rw [g6.1, l5]
  rw [l5] at k6
  have c6 := q6.keep f6 (by omega)
  obtain ⟨M7, e7, k7, c7, g7⟩ := arr_fld (M := M6) (j := 7) (n := 2) (lim := 2) (x := 2) (e := fun N => .inl (4, N, .inr (.inr (.inr (.inr (fun _ => none)))))) k6 (by simp) rfl (by omega) (by omega)
  rw [e7]
  have l7 : M7.length = 334 := by rw [g7.1, l6]
  rw [l6] at k7 c7
  obtain ⟨M8, e8, c8, d8, g8⟩ := st_put (N := N) (M := M7) (j := 7) (q := 333) (i := 0) (x := 0) hN k7 rfl c7 (by decide) (by omega) (by omega)
  rw [e8]
  have l8 : M8.length = 355 := by rw [g8.1, l7]
  rw [l7] at c8 d8
  have k8 := k7
  rw [← g8.2 0 (by omega) (by omega)] at k8
  obtain ⟨M9, e9, c9, d9, g9⟩ := st_put (N := N) (M := M8) (j := 7) (q := 333) (i := 1) (x := 0 + 1) hN k8 rfl d8 (by decide) (by omega) (by omega)
  rw [e9]
  have l9 : M9.length = 376 := by rw [g9.1, l8]
  rw [l8] at c9 d9
  have k9 := k8
  rw [← g9.2 0 (by omega) (by omega)] at k9
  obtain ⟨M10, e10, k10, c10, g10⟩ := arr_fld (M := M9) (j := 8) (n := 2) (lim := 2) (x := 2) (e := fun N => .inl (3, N, .inl (fun _ => 0))) k9 (by simp) rfl (by omega) (by omega)
  rw [e10]
  have l10 : M10.length = 377 := by rw [g10.1, l9]
  rw [l9] at k10 c10
  obtain ⟨M11, e11, k11, g11, f11⟩ := obj_fld (ini := fn_X2_init N) (M := M10) (M1 := M10 ++ [.inr (2, [.int 0, .int 0])]) (k := 0) (j := 9) k10 (by simp) rfl Gw.rf
  rw [e11]
  have l11 : M11.length = 378 := by rw [g11.1, l10]
  have c11 : M11[377]? = some (.inr (2, [.int 0, .int 0])) := by rw [f11.2 377 (by omega)]; exact ap_at l10
  rw [l10] at k11
  obtain ⟨P12, i12, q12, u1, u2, u3, u4, y12⟩ := new_py (N := N) (M := M11 ++ [.inr (5, [.null, .null, .null, .long 0, .null])]) (a := 378) (ap_at l11) (ap_ln l11)
  rw [← l11] at i12 y12
  obtain ⟨M12, e12, k12, g12, f12⟩ := obj_fld (ini := fn_X5_init N) (j := 10) k11 (by simp) i12 y12
  rw [e12]
  have l12 : M12.length = 384 := by rw [g12.1, l11]
  rw [l11] at k12
  obtain ⟨P13, i13, q13, v1, v2, y13⟩ := new_tu (N := N) (M := M12 ++ [.inr (8, [.null, .null])]) (a := 384) (ap_at l12) (ap_ln l12)
  rw [← l12] at i13 y13
  obtain ⟨M13, e13, k13, g13, f13⟩ := obj_fld (ini := fn_X8_init N) (j := 11) k12 (by simp) i13 y13
  rw [e13]
  have l13 : M13.length = 389 := by rw [g13.1, l12]
  rw [l12] at k13
  have T12 : ∀ b, b < 384 → b ≠ 0 → b ≠ 333 → M13[b]? = M12[b]? := fun b h1 h2 _ => g13.2 b (by omega) h2
  have T11 : ∀ b, b < 378 → b ≠ 0 → b ≠ 333 → M13[b]? = M11[b]? := fun b h1 h2 h3 => (T12 b (by omega) h2 h3).trans (g12.2 b (by omega) h2)
  have T10 : ∀ b, b < 377 → b ≠ 0 → b ≠ 333 → M13[b]? = M10[b]? := fun b h1 h2 h3 => (T11 b (by omega) h2 h3).trans (g11.2 b (by omega) h2)
  have T9 : ∀ b, b < 376 → b ≠ 0 → b ≠ 333 → M13[b]? = M9[b]? := fun b h1 h2 h3 => (T10 b (by omega) h2 h3).trans (g10.2 b (by omega) h2)
  have T8 : ∀ b, b < 355 → b ≠ 0 → b ≠ 333 → M13[b]? = M8[b]? := fun b h1 h2 h3 => (T9 b (by omega) h2 h3).trans (g9.2 b (by omega) h3)
  have T7 : ∀ b, b < 334 → b ≠ 0 → b ≠ 333 → M13[b]? = M7[b]? := fun b h1 h2 h3 => (T8 b (by omega) h2 h3).trans (g8.2 b (by omega) h3)
  have T6 : ∀ b, b < 333 → b ≠ 0 → b ≠ 333 → M13[b]? = M6[b]? := fun b h1 h2 h3 => (T7 b (by omega) h2 h3).trans (g7.2 b (by omega) h2)
  have T5 : ∀ b, b < 79 → b ≠ 0 → b ≠ 333 → M13[b]? = M5[b]? := fun b h1 h2 h3 => (T6 b (by omega) h2 h3).trans (g6.2 b (by omega) h2)
  have T4 : ∀ b, b < 58 → b ≠ 0 → b ≠ 333 → M13[b]? = M4[b]? := fun b h1 h2 h3 => (T5 b (by omega) h2 h3).trans (g5.2 b (by omega) h2)
  have T3 : ∀ b, b < 31 → b ≠ 0 → b ≠ 333 → M13[b]? = M3[b]? := fun b h1 h2 h3 => (T4 b (by omega) h2 h3).trans (g4.2 b (by omega) h2)
  have T2 : ∀ b, b < 4 → b ≠ 0 → b ≠ 333 → M13[b]? = M2[b]? := fun b h1 h2 h3 => (T3 b (by omega) h2 h3).trans (g3.2 b (by omega) h2)
  have T1 : ∀ b, b < 2 → b ≠ 0 → b ≠ 333 → M13[b]? = M1[b]? := fun b h1 h2 h3 => (T2 b (by omega) h2 h3).trans (g2.2 b (by omega) h2)
  have d13 : M13[333]? = _ := ((g13.2 333 (by omega) (by omega)).trans ((g12.2 333 (by omega) (by omega)).trans ((g11.2 333 (by omega) (by omega)).trans (g10.2 333 (by omega) (by omega))))).trans d9
  refine ⟨M13, rfl, ⟨4, 31, kf0, k13, by omega, ⟨fun _ => 0, by rw [T1 1 (by omega) (by omega) (by omega)]; exact c1, by decide, fun i hi => absurd hi (Nat.not_lt_zero _)⟩, c3.pw (fun b h1 h2 => T3 b (by omega) (by omega) (by omega)), c4.pw (fun b h1 h2 => T4 b (by omega) (by omega) (by omega)), c5.pw (fun b h1 h2 => T5 b (by omega) (by omega) (by omega)), c6.pw (fun b h1 h2 => T6 b (by omega) (by omega) (by omega)), ⟨_, fun _ => 0, d13, rfl, rfl, by rw [T10 376 (by omega) (by omega) (by omega)]; exact c10, ⟨_, c8.pw (fun b h1 h2 => T8 b (by omega) (by omega) (by omega)), Or.inl ⟨rfl, rfl⟩⟩, ⟨_, c9.pw (fun b h1 h2 => T9 b (by omega) (by omega) (by omega)), Or.inl ⟨rfl, rfl⟩⟩⟩, ?_⟩, l13⟩
  have z12 : ∀ b, 378 ≤ b → b < 384 → M13[b]? = P12[b]? := fun b h1 h2 => (T12 b h2 (by omega) (by omega)).trans (f12.2 b (by omega))
  refine ⟨⟨_, _, _, _, _, _, _, _, _, by rw [T2 2 (by omega) (by omega) (by omega)]; exact c2⟩, ⟨_, _, by rw [T11 377 (by omega) (by omega) (by omega)]; exact c11⟩, ⟨_, by rw [z12 378 (by omega) (by omega)]; exact q12⟩, ⟨_, by rw [z12 379 (by omega) (by omega)]; exact u1⟩, ⟨_, by rw [z12 380 (by omega) (by omega)]; exact u2⟩, ⟨_, by rw [z12 381 (by omega) (by omega)]; exact u3⟩, ⟨_, u4.pw (fun b h1 h2 => z12 b (by omega) (by omega))⟩, by rw [f13.2 384 (by omega)]; exact q13, ⟨_, v1.keep f13 (by omega)⟩, ⟨_, v2.keep f13 (by omega)⟩⟩
theorem si_step {M : Mem} {a t n j : Nat} {x v : Int32} {f : Nat → Int32} (h : M[a]? = some (.inl (t, n, .inl f))) (hx : x = nI j) (hj : j < n) (hn : n < 2 ^ 31) : ∃ M', mm_sI M a t x v = some M' ∧ M'[a]? = some (.inl (t, n, .inl (upd f j v))) ∧ Fr M M' a (a + 1) := by
  subst hx
  exact ⟨_, ev_sI h hj hn, st_self h, Fr.set (by omega) (by omega)⟩
def bas0 : Nat → Int32 := upd (upd (upd (upd (upd (upd (fun _ => 0) 0 0) 1 0) 2 0) 3 4000) 4 5) 5 100
theorem m_init (hN : 2 ^ 15 ≤ N) {M : Mem} (h : M[389]? = some (.inr (10, [.int 0, .null, .int 0, .int 0, .int 0, .int 0, .int 0, .int 0, .int 0, .int 0, .null, .null, .null, .null, .null, .int 0, .null, .null, .int 0, .null, .null, .int 0, .int 0, .int 0, .int 0, .null, .null, .null, .null]))) (hl : M.length = 390) : ∃ M' F A, fn_X10_init N M 389 = some ((), M') ∧ MAt M' F A ∧ Rel F A [] kf0 (st0 kf0) [] (fun _ => none) ∧ M'.length = 404 ∧ Pw M M' 0 389 := by
  unfold fn_X10_init
  obtain ⟨M1, e1, k1, c1, g1⟩ := arr_fld (M := M) (j := 1) (n := 800) (lim := 800) (x := 800) (e := fun N => .inl (2, N, .inl (fun _ => 0))) h (by simp) rfl (by omega) (by omega)
  rw [e1]
  have l1 : M1.length = 391 := by rw [g1.1, hl]
  rw [hl] at k1 c1
  rw [ev_nA (n := 6) (x := 6) rfl (by omega) (by omega), b2s]
  have a0 := ap_at (e := (.inl (0, 6, .inl (fun _ => 0)) : mE)) l1
  have p0 : ∀ b, b < 391 → (M1 ++ [(.inl (0, 6, .inl (fun _ => 0)) : mE)])[b]? = M1[b]? := fun b hb => ap_lt (by omega)
  have q0 := ap_ln (e := (.inl (0, 6, .inl (fun _ => 0)) : mE)) l1
  rw [l1]
  generalize M1 ++ [(.inl (0, 6, .inl (fun _ => 0)) : mE)] = Ma at a0 p0 q0 ⊢
  obtain ⟨A0, w0, s0, t0⟩ := si_step (j := 0) (x := 0) (v := 0) a0 rfl (by omega) (by omega)
  rw [w0, obs]
  obtain ⟨A1, w1, s1, t1⟩ := si_step (j := 1) (x := 1) (v := 0) s0 rfl (by omega) (by omega)
  rw [w1, obs]
  obtain ⟨A2, w2, s2, t2⟩ := si_step (j := 2) (x := 2) (v := 0) s1 rfl (by omega) (by omega)
  rw [w2, obs]
  obtain ⟨A3, w3, s3, t3⟩ := si_step (j := 3) (x := 3) (v := 4000) s2 rfl (by omega) (by omega)
  rw [w3, obs]
  obtain ⟨A4, w4, s4, t4⟩ := si_step (j := 4) (x := 4) (v := 5) s3 rfl (by omega) (by omega)
  rw [w4, obs]
  obtain ⟨A5, w5, s5, t5⟩ := si_step (j := 5) (x := 5) (v := 100) s4 rfl (by omega) (by omega)
  rw [w5, obs]
  have tt := t0.tr (t1.tr (t2.tr (t3.tr (t4.tr t5))))
  have ka : A5[389]? = _ := (tt.2 389 (by omega)).trans ((p0 389 (by omega)).trans k1)
  obtain ⟨M2, e2, k2, f2⟩ := pv_step (j := 10) (v := .ref 391) ka (by simp)
  rw [e2, obs]
  have l2 : M2.length = 392 := by rw [f2.1, tt.1, q0]
  have c2 : M2[391]? = some (.inl (0, 6, .inl bas0)) := by rw [f2.2 391 (by omega)]; exact s5
  have g2 : Gw M1 M2 389 1 := ⟨by rw [l2, l1], fun b hb hn => by rw [f2.2 b (by omega), tt.2 b (by omega)]; exact p0 b (by omega)⟩
  obtain ⟨M3, e3, k3, c3, g3⟩ := arr_fld (M := M2) (j := 11) (n := 6) (lim := 6) (x := 6) (e := fun N => .inl (0, N, .inl (fun _ => 0))) k2 (by simp) rfl (by omega) (by omega)
  rw [e3]
  have l3 : M3.length = 393 := by rw [g3.1, l2]
  rw [l2] at k3 c3
  obtain ⟨M4, e4, k4, c4, g4⟩ := arr_fld (M := M3) (j := 12) (n := 120) (lim := 120) (x := 120) (e := fun N => .inl (0, N, .inl (fun _ => 0))) k3 (by simp) rfl (by omega) (by omega)
  rw [e4]
  have l4 : M4.length = 394 := by rw [g4.1, l3]
  rw [l3] at k4 c4
  obtain ⟨M5, e5, k5, c5, g5⟩ := arr_fld (M := M4) (j := 13) (n := 16) (lim := 16) (x := 16) (e := fun N => .inl (0, N, .inl (fun _ => 0))) k4 (by simp) rfl (by omega) (by omega)
  rw [e5]
  have l5 : M5.length = 395 := by rw [g5.1, l4]
  rw [l4] at k5 c5
  obtain ⟨M6, e6, k6, c6, g6⟩ := arr_fld (M := M5) (j := 14) (n := 16) (lim := 16) (x := 16) (e := fun N => .inl (0, N, .inl (fun _ => 0))) k5 (by simp) rfl (by omega) (by omega)
  rw [e6]
  have l6 : M6.length = 396 := by rw [g6.1, l5]
  rw [l5] at k6 c6
  obtain ⟨M7, e7, k7, c7, g7⟩ := arr_fld (M := M6) (j := 16) (n := 412) (lim := 412) (x := 412) (e := fun N => .inl (0, N, .inl (fun _ => 0))) k6 (by simp) rfl (by omega) (by omega)
  rw [e7]
  have l7 : M7.length = 397 := by rw [g7.1, l6]
  rw [l6] at k7 c7
  obtain ⟨M8, e8, k8, c8, g8⟩ := arr_fld (M := M7) (j := 17) (n := 4944) (lim := 4944) (x := 4944) (e := fun N => .inl (0, N, .inl (fun _ => 0))) k7 (by simp) rfl (by omega) (by omega)
  rw [e8]
  have l8 : M8.length = 398 := by rw [g8.1, l7]
  rw [l7] at k8 c8
  obtain ⟨M9, e9, k9, c9, g9⟩ := arr_fld (M := M8) (j := 19) (n := 824) (lim := 824) (x := 824) (e := fun N => .inl (0, N, .inl (fun _ => 0))) k8 (by simp) rfl (by omega) (by omega)
  rw [e9]
  have l9 : M9.length = 399 := by rw [g9.1, l8]
  rw [l8] at k9 c9
  obtain ⟨M10, e10, k10, c10, g10⟩ := arr_fld (M := M9) (j := 20) (n := 2) (lim := 2) (x := 2) (e := fun N => .inl (3, N, .inl (fun _ => 0))) k9 (by simp) rfl (by omega) (by omega)
  rw [e10]
  have l10 : M10.length = 400 := by rw [g10.1, l9]
  rw [l9] at k10 c10
  obtain ⟨M11, e11, k11, c11, g11⟩ := arr_fld (M := M10) (j := 25) (n := 45009) (lim := 45009) (x := 45009) (e := fun N => .inl (0, N, .inl (fun _ => 0))) k10 (by simp) rfl (by omega) (by omega)
  rw [e11]
  have l11 : M11.length = 401 := by rw [g11.1, l10]
  rw [l10] at k11 c11
  obtain ⟨M12, e12, k12, c12, g12⟩ := arr_fld (M := M11) (j := 26) (n := 8) (lim := 8) (x := 8) (e := fun N => .inl (0, N, .inl (fun _ => 0))) k11 (by simp) rfl (by omega) (by omega)
  rw [e12]
  have l12 : M12.length = 402 := by rw [g12.1, l11]
  rw [l11] at k12 c12
  obtain ⟨M13, e13, k13, c13, g13⟩ := arr_fld (M := M12) (j := 27) (n := 8) (lim := 8) (x := 8) (e := fun N => .inl (0, N, .inl (fun _ => 0))) k12 (by simp) rfl (by omega) (by omega)
  rw [e13]
  have l13 : M13.length = 403 := by rw [g13.1, l12]
  rw [l12] at k13 c13
  obtain ⟨M14, e14, k14, c14, g14⟩ := arr_fld (M := M13) (j := 28) (n := 2002) (lim := 2002) (x := 2002) (e := fun N => .inl (0, N, .inl (fun _ => 0))) k13 (by simp) rfl (by omega) (by omega)
  rw [e14]
  have l14 : M14.length = 404 := by rw [g14.1, l13]
  rw [l13] at k14 c14
  have T13 : ∀ b, b < 403 → b ≠ 389 → M14[b]? = M13[b]? := fun b h1 h2 => g14.2 b (by omega) h2
  have T12 : ∀ b, b < 402 → b ≠ 389 → M14[b]? = M12[b]? := fun b h1 h2 => (T13 b (by omega) h2).trans (g13.2 b (by omega) h2)
  have T11 : ∀ b, b < 401 → b ≠ 389 → M14[b]? = M11[b]? := fun b h1 h2 => (T12 b (by omega) h2).trans (g12.2 b (by omega) h2)
  have T10 : ∀ b, b < 400 → b ≠ 389 → M14[b]? = M10[b]? := fun b h1 h2 => (T11 b (by omega) h2).trans (g11.2 b (by omega) h2)
  have T9 : ∀ b, b < 399 → b ≠ 389 → M14[b]? = M9[b]? := fun b h1 h2 => (T10 b (by omega) h2).trans (g10.2 b (by omega) h2)
  have T8 : ∀ b, b < 398 → b ≠ 389 → M14[b]? = M8[b]? := fun b h1 h2 => (T9 b (by omega) h2).trans (g9.2 b (by omega) h2)
  have T7 : ∀ b, b < 397 → b ≠ 389 → M14[b]? = M7[b]? := fun b h1 h2 => (T8 b (by omega) h2).trans (g8.2 b (by omega) h2)
  have T6 : ∀ b, b < 396 → b ≠ 389 → M14[b]? = M6[b]? := fun b h1 h2 => (T7 b (by omega) h2).trans (g7.2 b (by omega) h2)
  have T5 : ∀ b, b < 395 → b ≠ 389 → M14[b]? = M5[b]? := fun b h1 h2 => (T6 b (by omega) h2).trans (g6.2 b (by omega) h2)
  have T4 : ∀ b, b < 394 → b ≠ 389 → M14[b]? = M4[b]? := fun b h1 h2 => (T5 b (by omega) h2).trans (g5.2 b (by omega) h2)
  have T3 : ∀ b, b < 393 → b ≠ 389 → M14[b]? = M3[b]? := fun b h1 h2 => (T4 b (by omega) h2).trans (g4.2 b (by omega) h2)
  have T2 : ∀ b, b < 392 → b ≠ 389 → M14[b]? = M2[b]? := fun b h1 h2 => (T3 b (by omega) h2).trans (g3.2 b (by omega) h2)
  have T1 : ∀ b, b < 391 → b ≠ 389 → M14[b]? = M1[b]? := fun b h1 h2 => (T2 b (by omega) h2).trans (g2.2 b (by omega) h2)
  have hA : MAt M14 (fun _ => 0) (va_up (fun _ _ => 0) 10 bas0) := by
    refine ⟨k14, ?_, ?_, ?_, ?_, ?_, ?_, ?_, ?_, ?_, ?_, ?_, ?_, ?_, ?_⟩
    · rw [T1 390 (by omega) (by omega)]; exact c1
    · rw [T2 391 (by omega) (by omega)]; exact c2
    · rw [T3 392 (by omega) (by omega)]; exact c3
    · rw [T4 393 (by omega) (by omega)]; exact c4
    · rw [T5 394 (by omega) (by omega)]; exact c5
    · rw [T6 395 (by omega) (by omega)]; exact c6
    · rw [T7 396 (by omega) (by omega)]; exact c7
    · rw [T8 397 (by omega) (by omega)]; exact c8
    · rw [T9 398 (by omega) (by omega)]; exact c9
    · rw [T10 399 (by omega) (by omega)]; exact c10
    · rw [T11 400 (by omega) (by omega)]; exact c11
    · rw [T12 401 (by omega) (by omega)]; exact c12
    · rw [T13 402 (by omega) (by omega)]; exact c13
    · exact c14
  rw [hA.ck, obs]
  obtain ⟨r, M', F', A', s1, h', f', rfl, S, rfl, y1, y2⟩ := rf_cs hN hA
  rw [s1, b2s]
  refine ⟨M', _, _, rfl, h', ⟨⟨rfl, Nat.zero_le _, fun i hi => absurd hi (Nat.not_lt_zero _)⟩, ⟨⟨rfl, rfl, rfl, rfl, rfl, rfl⟩, fun i hi => absurd hi (Nat.not_lt_zero _), fun i hi => absurd hi (Nat.not_lt_zero _), fun i hi => absurd hi (Nat.not_lt_zero _)⟩, rs_st0 y1 y2 (Nat.zero_le _), ⟨rfl, Nat.zero_le _, fun i hi => absurd hi (Nat.not_lt_zero _)⟩, fun j hj => Or.inl ⟨rfl, rfl⟩⟩, by rw [f'.1, l14], fun b h1 h2 => ?_⟩
  rw [f'.2 b (by omega), T1 b (by omega) (by omega)]
  exact g1.2 b (by omega) (by omega)
theorem law_init : ∃ M0 F A, fn_law_init NN = some (0, 389, 404, M0) ∧ XAt M0 [] kf0 (st0 kf0) [] (fun _ => none) ∧ MAt M0 F A ∧ Rel F A [] kf0 (st0 kf0) [] (fun _ => none) ∧ ∃ g, M0[404]? = some (.inl (1, 1, .inr (.inl g))) := by
  have hN : 2 ^ 15 ≤ NN := by unfold NN; omega
  unfold fn_law_init
  obtain ⟨M1, e1, x1, l1⟩ := x_init (N := NN) hN (M := [] ++ [.inr (9, [.null, .int 0, .null, .null, .null, .null, .null, .null, .null, .null, .null, .null])]) rfl rfl
  have e1' : fn_X9_init NN ([] ++ [.inr (9, [.null, .int 0, .null, .null, .null, .null, .null, .null, .null, .null, .null, .null])]) ([] : Mem).length = some ((), M1) := e1
  rw [nms, e1', b2s, nms]
  obtain ⟨M2, F, A, e2, h2, k2, l2, p2⟩ := m_init (N := NN) hN (M := M1 ++ [.inr (10, [.int 0, .null, .int 0, .int 0, .int 0, .int 0, .int 0, .int 0, .int 0, .int 0, .null, .null, .null, .null, .null, .int 0, .null, .null, .int 0, .null, .null, .int 0, .int 0, .int 0, .int 0, .null, .null, .null, .null])]) (ap_at l1) (ap_ln l1)
  rw [l1, e2, b2s, ev_nA (n := 1) (x := 1) rfl (by omega) (by omega), b2s, l2]
  refine ⟨_, F, A, rfl, x1.pw (fun b h1 h3 => ?_), h2.pw (fun b h1 h3 => ap_lt (by omega)), k2, _, ap_at l2⟩
  rw [ap_lt (by omega), p2 b (by omega) (by omega), ap_lt (by omega)]
end CX
