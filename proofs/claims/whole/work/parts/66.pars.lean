/-! PURE: the parser: what it does, and the class does it -/
def capK (r : Nat) : Nat := [8, 8, 8, 8, 8, 4, 4, 4, 4, 4, 8, 8].getD r 0
def RwK (sp r b : Nat) : Prop := (∀ (M : Mem) (κ : Cf), CfAt M sp κ → RowAt M b (capK r) (κ.2 r)) ∧ (∀ (M M' : Mem) (κ : Cf) (l : List Int32), CfAt M sp κ → RowAt M' b (capK r) l → Fr M M' b (b + 2) → CfAt M' sp (κ.1, va_up κ.2 r l)) ∧ sp ≤ b ∧ b + 2 ≤ sp + 27
theorem rwk0 {sp : Nat} : RwK sp 0 (sp + 2) := ⟨fun M κ h => h.r0, fun M M' κ l h h1 hf => ⟨by rw [hf.2 sp (by omega)]; exact h.1, by rw [hf.2 (sp + 1) (by omega)]; exact h.2.1, by rw [hf.2 (sp + 12) (by omega)]; exact h.2.2.1, h1, h.r1.keep hf (by omega), h.r2.keep hf (by omega), h.r3.keep hf (by omega), h.r4.keep hf (by omega), h.r5.keep hf (by omega), h.r6.keep hf (by omega), h.r7.keep hf (by omega), h.r8.keep hf (by omega), h.r9.keep hf (by omega), h.r10.keep hf (by omega), h.r11.keep hf (by omega)⟩, by omega, by omega⟩
theorem rwk1 {sp : Nat} : RwK sp 1 (sp + 4) := ⟨fun M κ h => h.r1, fun M M' κ l h h1 hf => ⟨by rw [hf.2 sp (by omega)]; exact h.1, by rw [hf.2 (sp + 1) (by omega)]; exact h.2.1, by rw [hf.2 (sp + 12) (by omega)]; exact h.2.2.1, h.r0.keep hf (by omega), h1, h.r2.keep hf (by omega), h.r3.keep hf (by omega), h.r4.keep hf (by omega), h.r5.keep hf (by omega), h.r6.keep hf (by omega), h.r7.keep hf (by omega), h.r8.keep hf (by omega), h.r9.keep hf (by omega), h.r10.keep hf (by omega), h.r11.keep hf (by omega)⟩, by omega, by omega⟩
theorem rwk2 {sp : Nat} : RwK sp 2 (sp + 6) := ⟨fun M κ h => h.r2, fun M M' κ l h h1 hf => ⟨by rw [hf.2 sp (by omega)]; exact h.1, by rw [hf.2 (sp + 1) (by omega)]; exact h.2.1, by rw [hf.2 (sp + 12) (by omega)]; exact h.2.2.1, h.r0.keep hf (by omega), h.r1.keep hf (by omega), h1, h.r3.keep hf (by omega), h.r4.keep hf (by omega), h.r5.keep hf (by omega), h.r6.keep hf (by omega), h.r7.keep hf (by omega), h.r8.keep hf (by omega), h.r9.keep hf (by omega), h.r10.keep hf (by omega), h.r11.keep hf (by omega)⟩, by omega, by omega⟩
theorem rwk3 {sp : Nat} : RwK sp 3 (sp + 8) := ⟨fun M κ h => h.r3, fun M M' κ l h h1 hf => ⟨by rw [hf.2 sp (by omega)]; exact h.1, by rw [hf.2 (sp + 1) (by omega)]; exact h.2.1, by rw [hf.2 (sp + 12) (by omega)]; exact h.2.2.1, h.r0.keep hf (by omega), h.r1.keep hf (by omega), h.r2.keep hf (by omega), h1, h.r4.keep hf (by omega), h.r5.keep hf (by omega), h.r6.keep hf (by omega), h.r7.keep hf (by omega), h.r8.keep hf (by omega), h.r9.keep hf (by omega), h.r10.keep hf (by omega), h.r11.keep hf (by omega)⟩, by omega, by omega⟩
theorem rwk4 {sp : Nat} : RwK sp 4 (sp + 10) := ⟨fun M κ h => h.r4, fun M M' κ l h h1 hf => ⟨by rw [hf.2 sp (by omega)]; exact h.1, by rw [hf.2 (sp + 1) (by omega)]; exact h.2.1, by rw [hf.2 (sp + 12) (by omega)]; exact h.2.2.1, h.r0.keep hf (by omega), h.r1.keep hf (by omega), h.r2.keep hf (by omega), h.r3.keep hf (by omega), h1, h.r5.keep hf (by omega), h.r6.keep hf (by omega), h.r7.keep hf (by omega), h.r8.keep hf (by omega), h.r9.keep hf (by omega), h.r10.keep hf (by omega), h.r11.keep hf (by omega)⟩, by omega, by omega⟩
theorem rwk5 {sp : Nat} : RwK sp 5 (sp + 13) := ⟨fun M κ h => h.r5, fun M M' κ l h h1 hf => ⟨by rw [hf.2 sp (by omega)]; exact h.1, by rw [hf.2 (sp + 1) (by omega)]; exact h.2.1, by rw [hf.2 (sp + 12) (by omega)]; exact h.2.2.1, h.r0.keep hf (by omega), h.r1.keep hf (by omega), h.r2.keep hf (by omega), h.r3.keep hf (by omega), h.r4.keep hf (by omega), h1, h.r6.keep hf (by omega), h.r7.keep hf (by omega), h.r8.keep hf (by omega), h.r9.keep hf (by omega), h.r10.keep hf (by omega), h.r11.keep hf (by omega)⟩, by omega, by omega⟩
theorem rwk6 {sp : Nat} : RwK sp 6 (sp + 15) := ⟨fun M κ h => h.r6, fun M M' κ l h h1 hf => ⟨by rw [hf.2 sp (by omega)]; exact h.1, by rw [hf.2 (sp + 1) (by omega)]; exact h.2.1, by rw [hf.2 (sp + 12) (by omega)]; exact h.2.2.1, h.r0.keep hf (by omega), h.r1.keep hf (by omega), h.r2.keep hf (by omega), h.r3.keep hf (by omega), h.r4.keep hf (by omega), h.r5.keep hf (by omega), h1, h.r7.keep hf (by omega), h.r8.keep hf (by omega), h.r9.keep hf (by omega), h.r10.keep hf (by omega), h.r11.keep hf (by omega)⟩, by omega, by omega⟩
theorem rwk7 {sp : Nat} : RwK sp 7 (sp + 17) := ⟨fun M κ h => h.r7, fun M M' κ l h h1 hf => ⟨by rw [hf.2 sp (by omega)]; exact h.1, by rw [hf.2 (sp + 1) (by omega)]; exact h.2.1, by rw [hf.2 (sp + 12) (by omega)]; exact h.2.2.1, h.r0.keep hf (by omega), h.r1.keep hf (by omega), h.r2.keep hf (by omega), h.r3.keep hf (by omega), h.r4.keep hf (by omega), h.r5.keep hf (by omega), h.r6.keep hf (by omega), h1, h.r8.keep hf (by omega), h.r9.keep hf (by omega), h.r10.keep hf (by omega), h.r11.keep hf (by omega)⟩, by omega, by omega⟩
theorem rwk8 {sp : Nat} : RwK sp 8 (sp + 19) := ⟨fun M κ h => h.r8, fun M M' κ l h h1 hf => ⟨by rw [hf.2 sp (by omega)]; exact h.1, by rw [hf.2 (sp + 1) (by omega)]; exact h.2.1, by rw [hf.2 (sp + 12) (by omega)]; exact h.2.2.1, h.r0.keep hf (by omega), h.r1.keep hf (by omega), h.r2.keep hf (by omega), h.r3.keep hf (by omega), h.r4.keep hf (by omega), h.r5.keep hf (by omega), h.r6.keep hf (by omega), h.r7.keep hf (by omega), h1, h.r9.keep hf (by omega), h.r10.keep hf (by omega), h.r11.keep hf (by omega)⟩, by omega, by omega⟩
theorem rwk9 {sp : Nat} : RwK sp 9 (sp + 21) := ⟨fun M κ h => h.r9, fun M M' κ l h h1 hf => ⟨by rw [hf.2 sp (by omega)]; exact h.1, by rw [hf.2 (sp + 1) (by omega)]; exact h.2.1, by rw [hf.2 (sp + 12) (by omega)]; exact h.2.2.1, h.r0.keep hf (by omega), h.r1.keep hf (by omega), h.r2.keep hf (by omega), h.r3.keep hf (by omega), h.r4.keep hf (by omega), h.r5.keep hf (by omega), h.r6.keep hf (by omega), h.r7.keep hf (by omega), h.r8.keep hf (by omega), h1, h.r10.keep hf (by omega), h.r11.keep hf (by omega)⟩, by omega, by omega⟩
theorem rwk10 {sp : Nat} : RwK sp 10 (sp + 23) := ⟨fun M κ h => h.r10, fun M M' κ l h h1 hf => ⟨by rw [hf.2 sp (by omega)]; exact h.1, by rw [hf.2 (sp + 1) (by omega)]; exact h.2.1, by rw [hf.2 (sp + 12) (by omega)]; exact h.2.2.1, h.r0.keep hf (by omega), h.r1.keep hf (by omega), h.r2.keep hf (by omega), h.r3.keep hf (by omega), h.r4.keep hf (by omega), h.r5.keep hf (by omega), h.r6.keep hf (by omega), h.r7.keep hf (by omega), h.r8.keep hf (by omega), h.r9.keep hf (by omega), h1, h.r11.keep hf (by omega)⟩, by omega, by omega⟩
theorem rwk11 {sp : Nat} : RwK sp 11 (sp + 25) := ⟨fun M κ h => h.r11, fun M M' κ l h h1 hf => ⟨by rw [hf.2 sp (by omega)]; exact h.1, by rw [hf.2 (sp + 1) (by omega)]; exact h.2.1, by rw [hf.2 (sp + 12) (by omega)]; exact h.2.2.1, h.r0.keep hf (by omega), h.r1.keep hf (by omega), h.r2.keep hf (by omega), h.r3.keep hf (by omega), h.r4.keep hf (by omega), h.r5.keep hf (by omega), h.r6.keep hf (by omega), h.r7.keep hf (by omega), h.r8.keep hf (by omega), h.r9.keep hf (by omega), h.r10.keep hf (by omega), h1⟩, by omega, by omega⟩
theorem CfAt.n0 {M : Mem} {c : Nat} {κ : Cf} (h : CfAt M c κ) (v : Int32) : ∃ M', mm_pV M c 0 4 (.int v) = some M' ∧ CfAt M' c (upd κ.1 0 v, κ.2) ∧ Fr M M' c (c + 1) := by
  have hf : Fr M (M.set c (.inr (0, [Value.ref (c + 1), .ref (c + 12), .ref (c + 23), .ref (c + 25), .int (κ.1 0), .int (κ.1 1), .int (κ.1 2)].set 4 (.int v)))) c (c + 1) := Fr.set (by omega) (by omega)
  exact ⟨_, ev_pV h.1 (by simp), ⟨st_self h.1, by rw [hf.2 (c + 1) (by omega)]; exact h.2.1, by rw [hf.2 (c + 12) (by omega)]; exact h.2.2.1, h.r0.keep hf (by omega), h.r1.keep hf (by omega), h.r2.keep hf (by omega), h.r3.keep hf (by omega), h.r4.keep hf (by omega), h.r5.keep hf (by omega), h.r6.keep hf (by omega), h.r7.keep hf (by omega), h.r8.keep hf (by omega), h.r9.keep hf (by omega), h.r10.keep hf (by omega), h.r11.keep hf (by omega)⟩, hf⟩
theorem CfAt.n1 {M : Mem} {c : Nat} {κ : Cf} (h : CfAt M c κ) (v : Int32) : ∃ M', mm_pV M c 0 5 (.int v) = some M' ∧ CfAt M' c (upd κ.1 1 v, κ.2) ∧ Fr M M' c (c + 1) := by
  have hf : Fr M (M.set c (.inr (0, [Value.ref (c + 1), .ref (c + 12), .ref (c + 23), .ref (c + 25), .int (κ.1 0), .int (κ.1 1), .int (κ.1 2)].set 5 (.int v)))) c (c + 1) := Fr.set (by omega) (by omega)
  exact ⟨_, ev_pV h.1 (by simp), ⟨st_self h.1, by rw [hf.2 (c + 1) (by omega)]; exact h.2.1, by rw [hf.2 (c + 12) (by omega)]; exact h.2.2.1, h.r0.keep hf (by omega), h.r1.keep hf (by omega), h.r2.keep hf (by omega), h.r3.keep hf (by omega), h.r4.keep hf (by omega), h.r5.keep hf (by omega), h.r6.keep hf (by omega), h.r7.keep hf (by omega), h.r8.keep hf (by omega), h.r9.keep hf (by omega), h.r10.keep hf (by omega), h.r11.keep hf (by omega)⟩, hf⟩
theorem CfAt.n2 {M : Mem} {c : Nat} {κ : Cf} (h : CfAt M c κ) (v : Int32) : ∃ M', mm_pV M c 0 6 (.int v) = some M' ∧ CfAt M' c (upd κ.1 2 v, κ.2) ∧ Fr M M' c (c + 1) := by
  have hf : Fr M (M.set c (.inr (0, [Value.ref (c + 1), .ref (c + 12), .ref (c + 23), .ref (c + 25), .int (κ.1 0), .int (κ.1 1), .int (κ.1 2)].set 6 (.int v)))) c (c + 1) := Fr.set (by omega) (by omega)
  exact ⟨_, ev_pV h.1 (by simp), ⟨st_self h.1, by rw [hf.2 (c + 1) (by omega)]; exact h.2.1, by rw [hf.2 (c + 12) (by omega)]; exact h.2.2.1, h.r0.keep hf (by omega), h.r1.keep hf (by omega), h.r2.keep hf (by omega), h.r3.keep hf (by omega), h.r4.keep hf (by omega), h.r5.keep hf (by omega), h.r6.keep hf (by omega), h.r7.keep hf (by omega), h.r8.keep hf (by omega), h.r9.keep hf (by omega), h.r10.keep hf (by omega), h.r11.keep hf (by omega)⟩, hf⟩
def WU (u : UInt32) (l : List Int32) : Prop := st_ck u = some () ∧ (∀ (N : Nat) (M : Mem), fn_J0_length_8abf5 N M u = some (nI l.length, M)) ∧ (∀ (N : Nat) (M : Mem) (i : Nat), i < l.length → fn_J0_charAt_5068e N M u (nI i) = some (l.getD i 0, M)) ∧ l.length ≤ 6
theorem wu_mk {u t : UInt32} {l : List Int32} (h1 : st_ck u = some ()) (h2 : st_val u = some t) (h3 : st_ln t = some (nI l.length)) (h4 : l.length ≤ 6) (h5 : ∀ i, i < l.length → st_by t (nI i) = some (l.getD i 0)) (h6 : ∀ i, i < l.length → UInt32.toInt32 (Int32.toUInt32 (l.getD i 0 &&& 255) % 65536) = l.getD i 0 ∧ 0 ≤ l.getD i 0 ∧ l.getD i 0 < 65536) (h7 : nI l.length >>> ((0 : Int32) &&& 31) = nI l.length) : WU u l := by
  refine ⟨h1, fun N M => ?_, fun N M i hi => ?_, h4⟩
  · unfold fn_J0_length_8abf5 fn_J0_coder_7d493
    rw [h2, obs, h3, obs, h1, obs, if_neg (by decide), obs, b2s, h7]
  · obtain ⟨q1, q2, q3⟩ := h6 i hi
    unfold fn_J0_charAt_5068e fn_J0_isLatin1_aae02
    rw [h1, obs, if_neg (by decide), obs, if_pos rfl, b2s, if_neg (by decide), h2, obs]
    unfold fn_J1_charAt_3b067 fn_J0_checkIndex_df160 fn_J3_checkIndex_8e157
    rw [h3, obs, if_neg (nI_pos (by omega)), if_pos (nI_lt hi (by omega)), b2s, b2s, h5 i hi, obs, b2s, q1, if_pos ⟨q2, q3⟩]
def wd0 : List Int32 := [116, 121, 112, 101]
theorem wu0 : WU 0 wd0 := wu_mk (t := 100) (by decide +kernel) (by decide +kernel) (by decide +kernel) (by decide +kernel) (by decide +kernel) (by decide +kernel) (by decide +kernel)
def wd1 : List Int32 := [102, 97, 107, 101]
theorem wu1 : WU 1 wd1 := wu_mk (t := 101) (by decide +kernel) (by decide +kernel) (by decide +kernel) (by decide +kernel) (by decide +kernel) (by decide +kernel) (by decide +kernel)
def wd2 : List Int32 := [98, 105, 110]
theorem wu2 : WU 2 wd2 := wu_mk (t := 102) (by decide +kernel) (by decide +kernel) (by decide +kernel) (by decide +kernel) (by decide +kernel) (by decide +kernel) (by decide +kernel)
def wd3 : List Int32 := [103, 97, 116, 101]
theorem wu3 : WU 3 wd3 := wu_mk (t := 103) (by decide +kernel) (by decide +kernel) (by decide +kernel) (by decide +kernel) (by decide +kernel) (by decide +kernel) (by decide +kernel)
def wd4 : List Int32 := [108, 111, 111, 112]
theorem wu4 : WU 4 wd4 := wu_mk (t := 104) (by decide +kernel) (by decide +kernel) (by decide +kernel) (by decide +kernel) (by decide +kernel) (by decide +kernel) (by decide +kernel)
def wd5 : List Int32 := [109, 97, 114, 103, 105, 110]
theorem wu5 : WU 5 wd5 := wu_mk (t := 105) (by decide +kernel) (by decide +kernel) (by decide +kernel) (by decide +kernel) (by decide +kernel) (by decide +kernel) (by decide +kernel)
def wdA (tb : Nat → Int32) : Nat → List Int32 → Bool
  | _, [] => true
  | s, c :: l => if tb s = c then wdA tb (s + 1) l else false
def wdB (tb : Nat → Int32) (k : Int32) (s E : Nat) (l : List Int32) : Bool := decide (k = 2) && decide (E - s = l.length) && wdA tb s l
abbrev Ps : Type := Nat × Nat × Nat
/-- the parser's state: the error (0: none), the start of the last token, its end -/
def failS (p : Ps) (b : Bool) (k : Nat) : Ps := if b then (if p.1 = 0 then (8 * p.2.1 + k, p.2) else p) else p
def rdV (tb : Nat → Int32) (n e : Nat) : Int32 := numI tb (tkS tb n e) (tkE tb n e - tkS tb n e)
def rdE (tb : Nat → Int32) (n e : Nat) (lo hi : Int32) : Nat := if tkK tb n e = 3 then (if rdV tb n e < lo then 8 * tkS tb n e + 2 else if rdV tb n e ≤ hi then 0 else 8 * tkS tb n e + 2) else 8 * tkS tb n e + 1
def rdN (tb : Nat → Int32) (n : Nat) (p : Ps) (lo hi : Int32) : Ps × Int32 := if p.1 = 0 then ((rdE tb n p.2.2 lo hi, tkS tb n p.2.2, tkE tb n p.2.2), rdV tb n p.2.2) else (p, lo)
def smS (tb : Nat → Int32) (n : Nat) (p : Ps) : Ps := if p.1 = 0 then ((if tkK tb n p.2.2 = 4 then 0 else 8 * tkS tb n p.2.2 + 1), tkS tb n p.2.2, tkE tb n p.2.2) else p
def adR (κ : Cf) (r : Nat) (x : Int32) : Cf := (κ.1, va_up κ.2 r (if (κ.2 r).length < capK r then κ.2 r ++ [x] else κ.2 r))
def rdA (tb : Nat → Int32) (n r : Nat) (lo hi : Int32) (x : Ps × Cf) : Ps × Cf := ((rdN tb n x.1 lo hi).1, adR x.2 r (rdN tb n x.1 lo hi).2)
def kd0 (tb : Nat → Int32) (n o : Nat) (hv : Bool) (x : Ps × Cf) : Ps × Cf := if hv then rdA tb n o 1 500 x else (x.1, adR x.2 o 0)
def kdS (tb : Nat → Int32) (n o : Nat) (hv : Bool) (p : Ps) (κ : Cf) : Ps × Cf := rdA tb n (o + 4) 1 500 (rdA tb n (o + 3) 0 9999 (rdA tb n (o + 2) 1 200 (rdA tb n (o + 1) 1000 4000 (kd0 tb n o hv (failS p (!decide ((κ.2 o).length < capK o)) 4, κ)))))
def bnS (tb : Nat → Int32) (n : Nat) (p : Ps) (κ : Cf) : Ps × Cf := rdA tb n 11 1 100 (rdA tb n 10 0 (nI (κ.2 0).length - 1) (failS p (!decide ((κ.2 10).length < capK 10)) 4, κ))
def onS (tb : Nat → Int32) (n i : Nat) (lo hi : Int32) (p : Ps) (κ : Cf) (fl : Nat → Nat) : Ps × Cf × (Nat → Nat) := ((rdN tb n (failS p (decide (fl i = 1)) 3) lo hi).1, (upd κ.1 i (rdN tb n (failS p (decide (fl i = 1)) 3) lo hi).2, κ.2), va_up fl i 1)
/-- a statement, without its semicolon -/
def stB (tb : Nat → Int32) (n : Nat) (k : Int32) (p : Ps) (κ : Cf) (fl : Nat → Nat) : Ps × Cf × (Nat → Nat) :=
  if wdB tb k p.2.1 p.2.2 wd0 then ((kdS tb n 0 true p κ).1, (kdS tb n 0 true p κ).2, fl)
  else if wdB tb k p.2.1 p.2.2 wd1 then ((kdS tb n 5 false p κ).1, (kdS tb n 5 false p κ).2, fl)
  else if wdB tb k p.2.1 p.2.2 wd2 then ((bnS tb n p κ).1, (bnS tb n p κ).2, fl)
  else if wdB tb k p.2.1 p.2.2 wd3 then onS tb n 0 1000 4000 p κ fl
  else if wdB tb k p.2.1 p.2.2 wd4 then onS tb n 1 0 20 p κ fl
  else if wdB tb k p.2.1 p.2.2 wd5 then onS tb n 2 0 2000 p κ fl
  else (failS p true 1, κ, fl)
def plS (tb : Nat → Int32) (n : Nat) : Nat → Ps → Cf → (Nat → Nat) → Ps × Cf
  | 0, p, κ, _ => (p, κ)
  | f + 1, p, κ, fl => if p.1 = 0 then (if tkK tb n p.2.2 = 0 then (p, κ) else plS tb n f (smS tb n (stB tb n (tkK tb n p.2.2) (0, tkS tb n p.2.2, tkE tb n p.2.2) κ fl).1) (stB tb n (tkK tb n p.2.2) (0, tkS tb n p.2.2, tkE tb n p.2.2) κ fl).2.1 (stB tb n (tkK tb n p.2.2) (0, tkS tb n p.2.2, tkE tb n p.2.2) κ fl).2.2) else (p, κ)
def PG (n b : Nat) (G : Nat → Int32) (p : Ps) : Prop := G 1 = nI n ∧ G 5 = nI p.1 ∧ G 3 = nI p.2.1 ∧ (p.1 = 0 → G 4 = nI p.2.2 ∧ p.2.2 ≤ b) ∧ p.1 < 10000 ∧ p.2.1 ≤ 800
def FG (G : Nat → Int32) (fl : Nat → Nat) : Prop := (G 6 = nI (fl 0) ∧ fl 0 ≤ 1) ∧ (G 7 = nI (fl 1) ∧ fl 1 ≤ 1) ∧ (G 8 = nI (fl 2) ∧ fl 2 ≤ 1)
theorem FG.eq {G G' : Nat → Int32} {fl : Nat → Nat} (h : FG G fl) (h6 : G' 6 = G 6) (h7 : G' 7 = G 7) (h8 : G' 8 = G 8) : FG G' fl := ⟨⟨h6.trans h.1.1, h.1.2⟩, ⟨h7.trans h.2.1.1, h.2.1.2⟩, ⟨h8.trans h.2.2.1, h.2.2.2⟩⟩
section PRx
variable {N : Nat} {α : Type} {M : Mem} {gb tb : Nat → Int32} {sp n : Nat} {G : Nat → Int32} {κ : Cf} {p : Ps} {fl : Nat → Nat} {Q : α → (Nat → Int32) → Cf → Prop}
theorem pw_fail {b : Nat} (h : PAt M gb sp G κ) (hp : PG n b G p) {x : Int32} {c : Bool} (hx : x = if c then 1 else 0) {k : Nat} (hk : 1 ≤ k) (hk2 : k ≤ 4) : PW gb sp M (fn_X4_failIf N M 2 x (nI k)) (fun _ G' κ' => κ' = κ ∧ PG n b G' (failS p c k) ∧ G' 2 = G 2 ∧ G' 4 = G 4 ∧ G' 6 = G 6 ∧ G' 7 = G 7 ∧ G' 8 = G 8) := by
  obtain ⟨p1, p2, p3, p4, p5, p6⟩ := hp
  unfold fn_X4_failIf failS
  cases c with
  | false =>
    have hx0 : x = 0 := hx
    rw [if_pos hx0]
    exact PW.ret h ⟨rfl, ⟨p1, p2, p3, p4, p5, p6⟩, rfl, rfl, rfl, rfl, rfl⟩
  | true =>
    rw [hx, if_pos rfl, if_neg (by decide), h.i5, obs, p2, if_pos rfl]
    have hq := nI_eq (a := p.1) (b := 0) (by omega) (by omega)
    rw [nI_0] at hq
    by_cases q : p.1 = 0
    · rw [if_pos (hq.mpr q), if_pos q, h.i3, obs, p3, show (8 : Int32) = nI 8 from rfl, pk_mul, nI_add]
      refine PW.pF h fun M1 h1 => ?_
      refine PW.ret h1 ⟨rfl, ⟨p1, rfl, p3, fun z => ?_, ?_, p6⟩, rfl, rfl, rfl, rfl, rfl⟩
      · have : 8 * p.2.1 + k = 0 := z
        omega
      · show 8 * p.2.1 + k < 10000
        omega
    · rw [if_neg (fun z => q (hq.mp z)), if_neg q]
      exact PW.ret h ⟨rfl, ⟨p1, p2, p3, p4, p5, p6⟩, rfl, rfl, rfl, rfl, rfl⟩
theorem pw_num (hN : 2 ^ 15 ≤ N) (h : PAt M gb sp G κ) (ht : TB gb tb n) (hp : PG n n G p) (lo hi : Int32) : PW gb sp M (fn_X4_readNumber N M 2 lo hi) (fun r G' κ' => κ' = κ ∧ r = (rdN tb n p lo hi).2 ∧ PG n n G' (rdN tb n p lo hi).1 ∧ G' 6 = G 6 ∧ G' 7 = G 7 ∧ G' 8 = G 8) := by
  obtain ⟨p1, p2, p3, p4, p5, p6⟩ := hp
  have h800 := ht.2.2
  unfold fn_X4_readNumber rdN
  rw [h.i5, obs, p2]
  have hq := nI_eq (a := p.1) (b := 0) (by omega) (by omega)
  rw [nI_0] at hq
  by_cases q : p.1 = 0
  · obtain ⟨p7, p8⟩ := p4 q
    obtain ⟨b1, b2, b3, b4, b5, b6, b7⟩ := tk_bd ht.2.1 p8
    rw [if_pos (hq.mpr q), if_pos q, h.ck, obs]
    refine PW.call (pw_tok hN h ht p1 p7 p8) ?_
    rintro _ M1 G1 κ1 q1 ⟨rfl, t1, t2, t3, t4, t5, t6, t7, t8⟩
    rw [q1.i2, obs, t2]
    have hG1 : PG n (n + 1) G1 (0, tkS tb n p.2.2, tkE tb n p.2.2) := ⟨t1.trans p1, t5.trans (p2.trans (by rw [q])), t3, fun _ => ⟨t4, b4⟩, by show 0 < 10000; omega, by show tkS tb n p.2.2 ≤ 800; omega⟩
    have key : ∀ (x : Int32) (c : Bool), x = (if c then 1 else 0) → c = (!decide (tkK tb n p.2.2 = 3)) → PW gb sp M1 (fn_X4_readNumber_27 N M1 2 lo hi x 2) (fun r G' κ' => κ' = κ1 ∧ r = rdV tb n p.2.2 ∧ PG n n G' (rdE tb n p.2.2 lo hi, tkS tb n p.2.2, tkE tb n p.2.2) ∧ G' 6 = G 6 ∧ G' 7 = G 7 ∧ G' 8 = G 8) := by
      intro x c hx hc
      unfold fn_X4_readNumber_27
      rw [q1.ck, obs]
      refine PW.call (pw_fail (k := 1) q1 hG1 hx (by omega) (by omega)) ?_
      rintro _ M2 G2 κ2 q2 ⟨rfl, g2, f2, f4, f6, f7, f8⟩
      have g3 : G2 3 = nI (tkS tb n p.2.2) := by
        have := g2.2.2.1
        unfold failS at this
        cases c with
        | false => exact this
        | true => exact this
      rw [q2.ck, obs, ev_number hN q2 ht g2.1 g3 (f4.trans t4) (by omega) b5, b2s]
      have hv : numI tb (tkS tb n p.2.2) (tkE tb n p.2.2 - tkS tb n p.2.2) = rdV tb n p.2.2 := rfl
      rw [hv]
      have e47 : ∀ (d : Bool), rdE tb n p.2.2 lo hi = (failS (failS (0, tkS tb n p.2.2, tkE tb n p.2.2) c 1) d 2).1 → ∀ (y : Int32), y = (if d then 1 else 0) → PW gb sp M2 (mm_b2 (fn_X4_failIf N M2 2 y 2) fun _ M1 => some (rdV tb n p.2.2, M1)) (fun r G' κ' => κ' = κ2 ∧ r = rdV tb n p.2.2 ∧ PG n n G' (rdE tb n p.2.2 lo hi, tkS tb n p.2.2, tkE tb n p.2.2) ∧ G' 6 = G 6 ∧ G' 7 = G 7 ∧ G' 8 = G 8) := by
        intro d hd y hy
        refine PW.call (pw_fail (k := 2) q2 g2 hy (by omega) (by omega)) ?_
        rintro _ M3 G3 κ3 q3 ⟨rfl, g5, e2, e4, e6, e7, e8⟩
        refine PW.ret q3 ⟨rfl, rfl, ?_, e6.trans (f6.trans t6), e7.trans (f7.trans t7), e8.trans (f8.trans t8)⟩
        have est : (failS (failS (0, tkS tb n p.2.2, tkE tb n p.2.2) c 1) d 2).2 = (tkS tb n p.2.2, tkE tb n p.2.2) := by
          cases c <;> cases d <;> rfl
        obtain ⟨z1, z2, z3, z4, z5, z6⟩ := g5
        rw [est] at z3 z4 z6
        rw [← hd] at z2 z4 z5
        refine ⟨z1, z2, z3, fun z => ⟨(z4 z).1, ?_⟩, z5, z6⟩
        have hk3 : tkK tb n p.2.2 = 3 := by
          have z' : rdE tb n p.2.2 lo hi = 0 := z
          unfold rdE at z'
          by_cases q3 : tkK tb n p.2.2 = 3
          · exact q3
          · rw [if_neg q3] at z'; omega
        have hc0 : ¬ tkC tb n p.2.2 = 0 := fun z => by
          have := b7.mpr z
          rw [this] at hk3
          exact absurd hk3 (by decide)
        exact (b3 hc0).2.2
      by_cases k3 : tkK tb n p.2.2 = 3
      · have c0 : c = false := by rw [hc, k3]; rfl
        subst c0
        by_cases v1 : rdV tb n p.2.2 < lo
        · rw [if_pos v1]
          unfold fn_X4_readNumber_47
          rw [q2.ck, obs]
          exact e47 true (by unfold rdE; rw [if_pos k3, if_pos v1]; rfl) 1 rfl
        · rw [if_neg v1]
          by_cases v2 : rdV tb n p.2.2 ≤ hi
          · rw [if_pos v2, q2.ck, obs]
            exact e47 false (by unfold rdE; rw [if_pos k3, if_neg v1, if_pos v2]; rfl) 0 rfl
          · rw [if_neg v2]
            unfold fn_X4_readNumber_47
            rw [q2.ck, obs]
            exact e47 true (by unfold rdE; rw [if_pos k3, if_neg v1, if_neg v2]; rfl) 1 rfl
      · have c1 : c = true := by rw [hc]; simp [k3]
        subst c1
        have er : ∀ d, rdE tb n p.2.2 lo hi = (failS (failS (0, tkS tb n p.2.2, tkE tb n p.2.2) true 1) d 2).1 := by
          intro d
          unfold rdE
          rw [if_neg k3]
          cases d <;> rfl
        by_cases v1 : rdV tb n p.2.2 < lo
        · rw [if_pos v1]
          unfold fn_X4_readNumber_47
          rw [q2.ck, obs]
          exact e47 true (er _) 1 rfl
        · rw [if_neg v1]
          by_cases v2 : rdV tb n p.2.2 ≤ hi
          · rw [if_pos v2, q2.ck, obs]
            exact e47 false (er _) 0 rfl
          · rw [if_neg v2]
            unfold fn_X4_readNumber_47
            rw [q2.ck, obs]
            exact e47 true (er _) 1 rfl
    by_cases k3 : tkK tb n p.2.2 = 3
    · rw [if_pos k3]
      exact key 0 false rfl (by simp [k3])
    · rw [if_neg k3]
      exact key 1 true rfl (by simp [k3])
  · rw [if_neg (fun z => q (hq.mp z)), if_neg q]
    exact PW.ret h ⟨rfl, rfl, ⟨p1, p2, p3, p4, p5, p6⟩, rfl, rfl, rfl⟩
theorem pw_semi (hN : 2 ^ 15 ≤ N) (h : PAt M gb sp G κ) (ht : TB gb tb n) (hp : PG n n G p) : PW gb sp M (fn_X4_readSemicolon N M 2) (fun _ G' κ' => κ' = κ ∧ PG n n G' (smS tb n p) ∧ G' 6 = G 6 ∧ G' 7 = G 7 ∧ G' 8 = G 8) := by
  obtain ⟨p1, p2, p3, p4, p5, p6⟩ := hp
  have h800 := ht.2.2
  unfold fn_X4_readSemicolon smS
  rw [h.i5, obs, p2]
  have hq := nI_eq (a := p.1) (b := 0) (by omega) (by omega)
  rw [nI_0] at hq
  by_cases q : p.1 = 0
  · obtain ⟨p7, p8⟩ := p4 q
    obtain ⟨b1, b2, b3, b4, b5, b6, b7⟩ := tk_bd ht.2.1 p8
    rw [if_pos (hq.mpr q), if_pos q, h.ck, obs]
    refine PW.call (pw_tok hN h ht p1 p7 p8) ?_
    rintro _ M1 G1 κ1 q1 ⟨rfl, t1, t2, t3, t4, t5, t6, t7, t8⟩
    rw [q1.i2, obs, t2]
    have hG1 : PG n (n + 1) G1 (0, tkS tb n p.2.2, tkE tb n p.2.2) := ⟨t1.trans p1, t5.trans (p2.trans (by rw [q])), t3, fun _ => ⟨t4, b4⟩, by show 0 < 10000; omega, by show tkS tb n p.2.2 ≤ 800; omega⟩
    by_cases k4 : tkK tb n p.2.2 = 4
    · rw [if_pos k4, if_pos k4, q1.ck, obs]
      refine PW.call (pw_fail (k := 1) (c := false) q1 hG1 rfl (by omega) (by omega)) ?_
      rintro _ M2 G2 κ2 q2 ⟨rfl, g2, f2, f4, f6, f7, f8⟩
      have hc0 : ¬ tkC tb n p.2.2 = 0 := fun z => by
        have := b7.mpr z
        rw [this] at k4
        exact absurd k4 (by decide)
      refine PW.ret q2 ⟨rfl, ⟨g2.1, g2.2.1, g2.2.2.1, fun z => ⟨(g2.2.2.2.1 rfl).1, (b3 hc0).2.2⟩, g2.2.2.2.2⟩, f6.trans t6, f7.trans t7, f8.trans t8⟩
    · rw [if_neg k4, if_neg k4, q1.ck, obs]
      refine PW.call (pw_fail (k := 1) (c := true) q1 hG1 rfl (by omega) (by omega)) ?_
      rintro _ M2 G2 κ2 q2 ⟨rfl, g2, f2, f4, f6, f7, f8⟩
      refine PW.ret q2 ⟨rfl, ⟨g2.1, g2.2.1, g2.2.2.1, fun z => ?_, g2.2.2.2.2⟩, f6.trans t6, f7.trans t7, f8.trans t8⟩
      have : 8 * tkS tb n p.2.2 + 1 = 0 := z
      omega
  · rw [if_neg (fun z => q (hq.mp z)), if_neg q]
    exact PW.ret h ⟨rfl, ⟨p1, p2, p3, p4, p5, p6⟩, rfl, rfl, rfl⟩
theorem PW.ad {r b : Nat} {v : Int32} {f : Unit → Mem → Option (α × Mem)} (hb : RwK sp r b) (h : PAt M gb sp G κ) (k : ∀ M', PAt M' gb sp G (adR κ r v) → PW gb sp M' (f () M') Q) : PW gb sp M (mm_b2 (fn_X6_add N M b v) f) Q := by
  obtain ⟨b1, b2, b3, b4⟩ := hb
  obtain ⟨h1, h2, h3, h4⟩ := h
  have hr := b1 M κ h3
  obtain ⟨hl, -⟩ := row_len hr
  unfold adR at k
  by_cases q : (κ.2 r).length < capK r
  · rw [if_pos q] at k
    obtain ⟨M1, e1, r1, f1⟩ := row_add (N := N) hr q v
    rw [e1, b2s]
    exact PW.fr (FrP.of f1 b3 b4) (k M1 ⟨by rw [f1.2 2 (by omega)]; exact h1, by rw [f1.2 1 (by omega)]; exact h2, b2 M M1 κ _ h3 r1 f1, h4⟩)
  · rw [if_neg q] at k
    rw [row_addF hr (by omega), b2s]
    have e0 : (κ.1, va_up κ.2 r (κ.2 r)) = κ := by
      refine Prod.ext rfl ?_
      funext j
      show va_up κ.2 r (κ.2 r) j = κ.2 j
      unfold va_up
      split
      · rename_i e; rw [e]
      · rfl
    rw [e0] at k
    exact k M ⟨h1, h2, h3, h4⟩
theorem RwK.ck {r b : Nat} (hb : RwK sp r b) (h : PAt M gb sp G κ) : mm_ck M b 6 = some () := row_ck (hb.1 M κ h.2.2.1)
/-- a number, and into a row with it -/
theorem PW.rd {r b : Nat} {lo hi : Int32} {f : Unit → Mem → Option (α × Mem)} (hN : 2 ^ 15 ≤ N) (hb : RwK sp r b) (h : PAt M gb sp G κ) (ht : TB gb tb n) (hp : PG n n G p) (hfl : FG G fl) (k : ∀ M' G', PAt M' gb sp G' (rdA tb n r lo hi (p, κ)).2 → PG n n G' (rdA tb n r lo hi (p, κ)).1 → FG G' fl → PW gb sp M' (f () M') Q) : PW gb sp M ((mm_ck M 2 4).bind fun _ => mm_b2 (fn_X4_readNumber N M 2 lo hi) fun v M1 => (mm_ck M1 b 6).bind fun _ => mm_b2 (fn_X6_add N M1 b v) f) Q := by
  rw [h.ck, obs]
  refine PW.call (pw_num hN h ht hp lo hi) ?_
  rintro r' M1 G1 κ1 q1 ⟨rfl, rfl, g1, e6, e7, e8⟩
  rw [hb.ck q1, obs]
  refine PW.ad hb q1 fun M2 q2 => ?_
  exact k M2 G1 q2 g1 (hfl.eq e6 e7 e8)
end PRx

