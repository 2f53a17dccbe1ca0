/-! PURE: the reference's append -/
def BfR (F : Nat → Int32) (A : Nat → Nat → Int32) (bf : List Int32) : Prop := F 2 = nI bf.length ∧ bf.length ≤ 800 ∧ ∀ i, i < bf.length → A 1 i = bf.getD i 0
section RA
variable {N : Nat} {M : Mem} {F : Nat → Int32} {A : Nat → Nat → Int32} {bf : List Int32} {κ : Cf} {σ : St} {U : List St} {sn : Nat → Option St}
theorem rf_ap1 {m : Nat} {v s : Int32} (h : MAt M F A) (hb : BfR F A bf) (hl : bf.length < 800) (hs : ¬ s < 0) : ∃ M' F' A', fn_X10_appendInt_3 N (m + 1) M 389 v s = fn_X10_appendInt_3 N m M' 389 v (s + (-8)) ∧ MAt M' F' A' ∧ BfR F' A' (bf ++ [byI v s]) ∧ Fr M M' 389 404 ∧ (∀ j, j ≠ 1 → A' j = A j) ∧ F' 18 = F 18 := by
  obtain ⟨b1, b2, b3⟩ := hb
  rw [fn_X10_appendInt_3.eq_2, if_neg hs, h.g1, obs, h.i2, obs, b1]
  obtain ⟨M1, e1, h1, f1⟩ := h.w1 (j := bf.length) hl (byI v s)
  have e1' : mm_sI M 390 2 (nI bf.length) (vp_nar .byte (Int8.toInt32 (Int32.toInt8 (v >>> (s &&& 31))))) = some M1 := e1
  obtain ⟨M2, e2, h2, f2⟩ := h1.pF (j := 2) (by decide) (nI (bf.length + 1))
  rw [e1', obs, h1.i2, obs, b1, nI_1, e2, obs]
  refine ⟨M2, _, _, rfl, h2, ⟨by rw [app_len]; rfl, by rw [app_len]; omega, fun i hi => ?_⟩, f1.tr f2, fun j hj => va_up_ne _ _ hj, rfl⟩
  rw [app_len] at hi
  show upd (A 1) bf.length (byI v s) i = _
  by_cases z : i = bf.length
  · rw [z, pk_us, gB rfl]
  · rw [pk_un z, gA (by omega)]
    exact b3 i (by omega)
theorem rf_ai {v : Int32} (hN : 2 ^ 15 ≤ N) (h : MAt M F A) (hb : BfR F A bf) (hl : bf.length + 4 ≤ 800) : ∃ M' F' A', fn_X10_appendInt N M 389 v = some ((), M') ∧ MAt M' F' A' ∧ BfR F' A' (awI bf v) ∧ Fr M M' 389 404 ∧ (∀ j, j ≠ 1 → A' j = A j) ∧ F' 18 = F 18 := by
  unfold fn_X10_appendInt
  obtain ⟨k, hk⟩ : ∃ k, N = k + 1 + 1 + 1 + 1 + 1 := ⟨N - 5, by omega⟩
  have key : ∀ m, m = k + 1 + 1 + 1 + 1 + 1 → ∃ M' F' A', fn_X10_appendInt_3 N m M 389 v 24 = some ((), M') ∧ MAt M' F' A' ∧ BfR F' A' (awI bf v) ∧ Fr M M' 389 404 ∧ (∀ j, j ≠ 1 → A' j = A j) ∧ F' 18 = F 18 := by
    intro m hm
    subst hm
    obtain ⟨M1, F1, A1, e1, x1, y1, f1, g1, i1⟩ := rf_ap1 (N := N) (m := k + 1 + 1 + 1 + 1) (v := v) (s := 24) h hb (by omega) (by decide)
    rw [e1, show (24 : Int32) + (-8) = 16 by decide]
    obtain ⟨M2, F2, A2, e2, x2, y2, f2, g2, i2⟩ := rf_ap1 (N := N) (m := k + 1 + 1 + 1) (v := v) (s := 16) x1 y1 (by rw [app_len]; omega) (by decide)
    rw [e2, show (16 : Int32) + (-8) = 8 by decide]
    obtain ⟨M3, F3, A3, e3, x3, y3, f3, g3, i3⟩ := rf_ap1 (N := N) (m := k + 1 + 1) (v := v) (s := 8) x2 y2 (by rw [app_len, app_len]; omega) (by decide)
    rw [e3, show (8 : Int32) + (-8) = 0 by decide]
    obtain ⟨M4, F4, A4, e4, x4, y4, f4, g4, i4⟩ := rf_ap1 (N := N) (m := k + 1) (v := v) (s := 0) x3 y3 (by rw [app_len, app_len, app_len]; omega) (by decide)
    rw [e4, fn_X10_appendInt_3.eq_2, if_pos (by decide)]
    exact ⟨M4, F4, A4, rfl, x4, y4, f1.tr (f2.tr (f3.tr f4)), fun j hj => (g4 j hj).trans ((g3 j hj).trans ((g2 j hj).trans (g1 j hj))), i4.trans (i3.trans (i2.trans i1))⟩
  exact key N hk
theorem rf_append (hN : 2 ^ 15 ≤ N) (h : MAt M F A) (k : Rel F A bf κ σ U sn) (a b c d e : Int32) : RW M (fn_X10_append N M 389 a b c d e) (fun r F' A' => r = (apI bf a b c d e).1 ∧ Rel F' A' (apI bf a b c d e).2 κ σ U sn) := by
  obtain ⟨k1, k4, k5, k6, k7⟩ := k
  unfold fn_X10_append apI
  refine RW.pF h fun M0 h0 => ?_
  have e2 : upd F 0 0 2 = F 2 := rfl
  have hb0 : BfR (upd F 0 0) A bf := k1
  have l8 := k1.2.1
  have hq := nI_leI (a := bf.length + 20) (b := 800) (by omega) (by decide)
  rw [h0.i2, obs, e2, k1.1, show nI bf.length + 20 = nI (bf.length + 20) from nI_add _ 20]
  by_cases q : bf.length ≤ 780
  · rw [if_pos (show nI (bf.length + 20) ≤ 800 from hq.mpr (by omega)), if_pos q, h0.ck, obs]
    obtain ⟨M1, F1, A1, e1, x1, y1, f1, g1, i1⟩ := rf_ai (N := N) (v := a) hN h0 hb0 (by omega)
    rw [e1, b2s, x1.ck, obs]
    obtain ⟨M2, F2, A2, e2, x2, y2, f2, g2, i2⟩ := rf_ai (N := N) (v := b) hN x1 y1 (by rw [awI_len]; omega)
    rw [e2, b2s, x2.ck, obs]
    obtain ⟨M3, F3, A3, e3, x3, y3, f3, g3, i3⟩ := rf_ai (N := N) (v := c) hN x2 y2 (by rw [awI_len, awI_len]; omega)
    rw [e3, b2s, x3.ck, obs]
    obtain ⟨M4, F4, A4, e4, x4, y4, f4, g4, i4⟩ := rf_ai (N := N) (v := d) hN x3 y3 (by rw [awI_len, awI_len, awI_len]; omega)
    rw [e4, b2s, x4.ck, obs]
    obtain ⟨M5, F5, A5, e5, x5, y5, f5, g5, i5⟩ := rf_ai (N := N) (v := e) hN x4 y4 (by rw [awI_len, awI_len, awI_len, awI_len]; omega)
    rw [e5, b2s, x5.i2, obs]
    have gg : ∀ j, j ≠ 1 → A5 j = A j := fun j hj => (g5 j hj).trans ((g4 j hj).trans ((g3 j hj).trans ((g2 j hj).trans (g1 j hj))))
    refine RW.fr (f1.tr (f2.tr (f3.tr (f4.tr f5)))) (RW.ret x5 ⟨?_, y5, ?_, ?_, ?_, ?_⟩)
    · rw [y5.1, awI_len, awI_len, awI_len, awI_len, awI_len]
    · rw [gg 10 (by omega), gg 12 (by omega), gg 13 (by omega), gg 14 (by omega)]
      exact k4
    · rw [gg 16 (by omega)]
      exact k5
    · rw [gg 17 (by omega), i5, i4, i3, i2, i1]
      exact k6
    · rw [gg 19 (by omega), gg 20 (by omega)]
      exact k7
  · rw [if_neg (show ¬ nI (bf.length + 20) ≤ 800 from fun y => q (by have := hq.mp y; omega)), if_neg q]
    exact RW.ret h0 ⟨rfl, k1, k4, k5, k6, k7⟩
end RA
