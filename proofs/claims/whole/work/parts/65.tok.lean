/-! PURE: texts, tokens; the class's reader -/
def tk49 (x : Int32) : Int32 := if x = 59 then 4 else 5
def tk35 (x : Int32) : Int32 := if x < 48 then tk49 x else if 57 < x then tk49 x else 3
def tkO (x : Int32) : Int32 := if x = -1 then 0 else if x = 32 then 1 else if x = 10 then 1 else if x < 97 then tk35 x else if 122 < x then tk35 x else 2
theorem ev_tok {N : Nat} {M : Mem} (x : Int32) : fn_X4_tokenOf N M x = some (tkO x, M) := by
  have e49 : ∀ x, fn_X4_tokenOf_49 N M x = some (tk49 x, M) := by
    intro x
    unfold fn_X4_tokenOf_49 tk49
    split <;> rfl
  have e35 : ∀ x, fn_X4_tokenOf_35 N M x = some (tk35 x, M) := by
    intro x
    unfold fn_X4_tokenOf_35 tk35
    rw [e49]
    split
    · rfl
    · split <;> rfl
  unfold fn_X4_tokenOf tkO
  rw [e35]
  split
  · rfl
  · split
    · rfl
    · split
      · rfl
      · split
        · rfl
        · split <;> rfl
def rnE (tb : Nat → Int32) (c : Int32) : Nat → Nat → Nat
  | 0, e => e
  | f + 1, e => if tkO (tb e) = c then rnE tb c f (e + 1) else e
/-- the end of a run of bytes of kind c -/
def rn (tb : Nat → Int32) (n : Nat) (c : Int32) (e : Nat) : Nat := rnE tb c (n - e) e
theorem rn_lt {tb : Nat → Int32} {n e : Nat} {c : Int32} (h : e < n) : rn tb n c e = if tkO (tb e) = c then rn tb n c (e + 1) else e := by
  unfold rn
  rw [show n - e = (n - (e + 1)) + 1 by omega, rnE]
theorem rn_n {tb : Nat → Int32} {n : Nat} {c : Int32} : rn tb n c n = n := by
  unfold rn
  rw [Nat.sub_self, rnE]
theorem rn_bd {tb : Nat → Int32} {n : Nat} {c : Int32} : ∀ d e, n - e = d → e ≤ n → e ≤ rn tb n c e ∧ rn tb n c e ≤ n ∧ (rn tb n c e < n → ¬ tkO (tb (rn tb n c e)) = c) ∧ ∀ j, e ≤ j → j < rn tb n c e → tkO (tb j) = c := by
  intro d
  induction d with
  | zero =>
    intro e h1 h2
    have e0 : e = n := by omega
    subst e0
    rw [rn_n]
    exact ⟨Nat.le_refl _, Nat.le_refl _, fun h => by omega, fun j h1 h2 => by omega⟩
  | succ d ih =>
    intro e h1 h2
    rw [rn_lt (show e < n by omega)]
    by_cases q : tkO (tb e) = c
    · rw [if_pos q]
      obtain ⟨i1, i2, i3, i4⟩ := ih (e + 1) (by omega) (by omega)
      refine ⟨by omega, i2, i3, fun j h1 h2 => ?_⟩
      by_cases e0 : j = e
      · subst e0; exact q
      · exact i4 j (by omega) h2
    · rw [if_neg q]
      exact ⟨Nat.le_refl _, by omega, fun _ => q, fun j h1 h2 => by omega⟩
/-- the token behind e: start, raw kind, end, kind -/
def tkS (tb : Nat → Int32) (n e : Nat) : Nat := rn tb n 1 e
def tkC (tb : Nat → Int32) (n e : Nat) : Int32 := tkO (tb (tkS tb n e))
def tkE (tb : Nat → Int32) (n e : Nat) : Nat := if tkC tb n e = 2 then rn tb n 2 (tkS tb n e) else if tkC tb n e = 3 then rn tb n 3 (tkS tb n e) else tkS tb n e + 1
def tkK (tb : Nat → Int32) (n e : Nat) : Int32 := if tkC tb n e = 2 then (if tkE tb n e - tkS tb n e ≤ 6 then 2 else 5) else if tkC tb n e = 3 then (if tkE tb n e - tkS tb n e ≤ 4 then 3 else 5) else tkC tb n e
def numI (tb : Nat → Int32) (s : Nat) : Nat → Int32
  | 0 => 0
  | k + 1 => 10 * numI tb s k + tb (s + k) - 48
def TB (gb tb : Nat → Int32) (n : Nat) : Prop := (∀ k, k < n → gb k &&& 255 = tb k) ∧ (∀ k, n ≤ k → tb k = -1) ∧ n ≤ 800
theorem tkO_m1 : tkO (-1) = 0 := by decide
theorem tk_bd {tb : Nat → Int32} {n e : Nat} (hz : ∀ k, n ≤ k → tb k = -1) (he : e ≤ n) : e ≤ tkS tb n e ∧ tkS tb n e ≤ n ∧ (¬ tkC tb n e = 0 → tkS tb n e < n ∧ tkS tb n e < tkE tb n e ∧ tkE tb n e ≤ n) ∧ tkE tb n e ≤ n + 1 ∧ tkS tb n e ≤ tkE tb n e ∧ ¬ tkC tb n e = 1 ∧ (tkK tb n e = 0 ↔ tkC tb n e = 0) := by
  obtain ⟨h1, h2, h3, -⟩ := rn_bd (tb := tb) (n := n) (c := 1) (n - e) e rfl he
  have hS : tkS tb n e = rn tb n 1 e := rfl
  have hlt : ¬ tkC tb n e = 0 → tkS tb n e < n := fun q => by
    by_cases z : tkS tb n e < n
    · exact z
    · exfalso
      apply q
      unfold tkC
      rw [hz _ (by omega), tkO_m1]
  have hr : ∀ c, tkC tb n e = c → ¬ c = 0 → tkS tb n e < rn tb n c (tkS tb n e) ∧ rn tb n c (tkS tb n e) ≤ n := fun c q q0 => by
    have hl := hlt (by rw [q]; exact q0)
    rw [rn_lt hl, if_pos (show tkO (tb (tkS tb n e)) = c from q)]
    obtain ⟨i1, i2, -⟩ := rn_bd (tb := tb) (n := n) (c := c) (n - (tkS tb n e + 1)) (tkS tb n e + 1) rfl (by omega)
    omega
  have hE : (¬ tkC tb n e = 0 → tkS tb n e < n ∧ tkS tb n e < tkE tb n e ∧ tkE tb n e ≤ n) ∧ tkE tb n e ≤ n + 1 ∧ tkS tb n e ≤ tkE tb n e := by
    unfold tkE
    by_cases q2 : tkC tb n e = 2
    · rw [if_pos q2]
      have := hr 2 q2 (by decide)
      exact ⟨fun q => ⟨hlt q, this.1, this.2⟩, by omega, by omega⟩
    · rw [if_neg q2]
      by_cases q3 : tkC tb n e = 3
      · rw [if_pos q3]
        have := hr 3 q3 (by decide)
        exact ⟨fun q => ⟨hlt q, this.1, this.2⟩, by omega, by omega⟩
      · rw [if_neg q3]
        exact ⟨fun q => ⟨hlt q, by omega, by have := hlt q; omega⟩, by omega, by omega⟩
  refine ⟨h1, h2, hE.1, hE.2.1, hE.2.2, ?_, ?_⟩
  · by_cases z : tkS tb n e < n
    · exact h3 z
    · unfold tkC
      rw [hz _ (by omega), tkO_m1]
      decide
  · unfold tkK
    by_cases q2 : tkC tb n e = 2
    · rw [if_pos q2, q2]
      constructor
      · intro z
        split at z <;> exact absurd z (by decide)
      · intro z; exact absurd z (by decide)
    · rw [if_neg q2]
      by_cases q3 : tkC tb n e = 3
      · rw [if_pos q3, q3]
        constructor
        · intro z
          split at z <;> exact absurd z (by decide)
        · intro z; exact absurd z (by decide)
      · rw [if_neg q3]
/-! the class's cells while it parses: 1 the text, 2 the parser, sp .. the spare configuration -/
def paF (G : Nat → Int32) : List Value := [.ref 1, .int (G 1), .int (G 2), .int (G 3), .int (G 4), .int (G 5), .int (G 6), .int (G 7), .int (G 8)]
def PAt (M : Mem) (gb : Nat → Int32) (sp : Nat) (G : Nat → Int32) (κ : Cf) : Prop := M[2]? = some (.inr (4, paF G)) ∧ M[1]? = some (.inl (2, 800, .inl gb)) ∧ CfAt M sp κ ∧ 3 ≤ sp
def FrP (sp : Nat) (M M' : Mem) : Prop := M'.length = M.length ∧ ∀ b, b ≠ 2 → (b < sp ∨ sp + 27 ≤ b) → M'[b]? = M[b]?
theorem FrP.rf {sp : Nat} {M : Mem} : FrP sp M M := ⟨rfl, fun _ _ _ => rfl⟩
theorem FrP.tr {sp : Nat} {M M' M'' : Mem} (h : FrP sp M M') (g : FrP sp M' M'') : FrP sp M M'' := ⟨g.1.trans h.1, fun b h1 h2 => (g.2 b h1 h2).trans (h.2 b h1 h2)⟩
theorem FrP.of {sp lo hi : Nat} {M M' : Mem} (h : Fr M M' lo hi) (h1 : sp ≤ lo) (h2 : hi ≤ sp + 27) : FrP sp M M' := ⟨h.1, fun b _ hb => h.2 b (by omega)⟩
def PW {α : Type} (gb : Nat → Int32) (sp : Nat) (M : Mem) (x : Option (α × Mem)) (Q : α → (Nat → Int32) → Cf → Prop) : Prop := ∃ r M' G' κ', x = some (r, M') ∧ PAt M' gb sp G' κ' ∧ FrP sp M M' ∧ Q r G' κ'
section PWs
variable {α β : Type} {M : Mem} {gb : Nat → Int32} {sp : Nat} {G : Nat → Int32} {κ : Cf} {Q : α → (Nat → Int32) → Cf → Prop}
theorem PAt.i1 (h : PAt M gb sp G κ) : mm_gI M 2 4 1 = some (G 1) := ev_gI h.1 rfl
theorem PAt.i2 (h : PAt M gb sp G κ) : mm_gI M 2 4 2 = some (G 2) := ev_gI h.1 rfl
theorem PAt.i3 (h : PAt M gb sp G κ) : mm_gI M 2 4 3 = some (G 3) := ev_gI h.1 rfl
theorem PAt.i4 (h : PAt M gb sp G κ) : mm_gI M 2 4 4 = some (G 4) := ev_gI h.1 rfl
theorem PAt.i5 (h : PAt M gb sp G κ) : mm_gI M 2 4 5 = some (G 5) := ev_gI h.1 rfl
theorem PAt.i6 (h : PAt M gb sp G κ) : mm_gI M 2 4 6 = some (G 6) := ev_gI h.1 rfl
theorem PAt.i7 (h : PAt M gb sp G κ) : mm_gI M 2 4 7 = some (G 7) := ev_gI h.1 rfl
theorem PAt.i8 (h : PAt M gb sp G κ) : mm_gI M 2 4 8 = some (G 8) := ev_gI h.1 rfl
theorem PAt.ck (h : PAt M gb sp G κ) : mm_ck M 2 4 = some () := ev_ck h.1
theorem PAt.gT (h : PAt M gb sp G κ) : mm_gR M 2 4 0 = some 1 := ev_gR h.1 rfl
theorem paF_set {j : Nat} {v : Int32} (hj : j ∈ [1, 2, 3, 4, 5, 6, 7, 8]) : (paF G).set j (.int v) = paF (upd G j v) := by
  simp only [List.mem_cons, List.not_mem_nil, or_false] at hj
  rcases hj with rfl | rfl | rfl | rfl | rfl | rfl | rfl | rfl <;> rfl
theorem PW.ret {r : α} (h : PAt M gb sp G κ) (q : Q r G κ) : PW gb sp M (some (r, M)) Q := ⟨r, M, G, κ, rfl, h, FrP.rf, q⟩
theorem PW.fr {M' : Mem} {x : Option (α × Mem)} (hf : FrP sp M M') (h : PW gb sp M' x Q) : PW gb sp M x Q := by
  obtain ⟨r, M2, G2, κ2, h1, h2, h3, h4⟩ := h
  exact ⟨r, M2, G2, κ2, h1, h2, hf.tr h3, h4⟩
theorem PW.call {y : Option (β × Mem)} {f : β → Mem → Option (α × Mem)} {Q1 : β → (Nat → Int32) → Cf → Prop} (h1 : PW gb sp M y Q1) (k : ∀ r M' G' κ', PAt M' gb sp G' κ' → Q1 r G' κ' → PW gb sp M' (f r M') Q) : PW gb sp M (mm_b2 y f) Q := by
  obtain ⟨r, M2, G2, κ2, e, h2, h3, h4⟩ := h1
  rw [e, b2s]
  exact PW.fr h3 (k r M2 G2 κ2 h2 h4)
theorem PW.imp {x : Option (α × Mem)} {Q' : α → (Nat → Int32) → Cf → Prop} (h : PW gb sp M x Q) (k : ∀ r G' κ', Q r G' κ' → Q' r G' κ') : PW gb sp M x Q' := by
  obtain ⟨r, M2, G2, κ2, h1, h2, h3, h4⟩ := h
  exact ⟨r, M2, G2, κ2, h1, h2, h3, k r G2 κ2 h4⟩
theorem PW.pF {j : Nat} {v : Int32} {f : Mem → Option (α × Mem)} (h : PAt M gb sp G κ) (k : ∀ M', PAt M' gb sp (upd G j v) κ → PW gb sp M' (f M') Q) (hj : j ∈ [1, 2, 3, 4, 5, 6, 7, 8] := by decide) : PW gb sp M ((mm_pV M 2 4 j (.int v)).bind f) Q := by
  obtain ⟨h1, h2, h3, h4⟩ := h
  have hj8 : j < 9 := by
    simp only [List.mem_cons, List.not_mem_nil, or_false] at hj
    omega
  rw [ev_pV h1 (show j < (paF G).length from hj8), obs, paF_set hj]
  have hf : Fr M (M.set 2 (.inr (4, paF (upd G j v)))) 2 3 := Fr.set (by omega) (by omega)
  exact PW.fr ⟨hf.1, fun b hb _ => hf.2 b (by omega)⟩ (k _ ⟨st_self h1, by rw [hf.2 1 (by omega)]; exact h2, h3.keep hf (by omega), h4⟩)
theorem PW.pZ {j : Nat} {v : Int32} {f : Mem → Option (α × Mem)} (h : PAt M gb sp G κ) (hv : v = 0 ∨ v = 1) (k : ∀ M', PAt M' gb sp (upd G j v) κ → PW gb sp M' (f M') Q) (hj : j ∈ [1, 2, 3, 4, 5, 6, 7, 8] := by decide) : PW gb sp M ((mm_pZ M 2 4 j v).bind f) Q := by
  unfold mm_pZ
  rw [if_pos hv]
  exact PW.pF h k hj
end PWs
section TKx
variable {N : Nat} {M : Mem} {gb tb : Nat → Int32} {sp n : Nat} {G : Nat → Int32} {κ : Cf}
theorem ev_byte (h : PAt M gb sp G κ) (ht : TB gb tb n) (h1 : G 1 = nI n) {k : Nat} (hk : k < 2 ^ 15) : fn_X4_byteAt N M 2 (nI k) = some (tb k, M) := by
  obtain ⟨t1, t2, t3⟩ := ht
  unfold fn_X4_byteAt
  rw [if_neg (nI_pos (by omega)), h.i1, obs, h1]
  by_cases q : k < n
  · rw [if_neg (nI_ge q (by omega)), h.gT, obs, ev_aN h.2.1 (by omega), obs, if_neg (nI_ge (by omega) (by omega)), obs, ev_aI h.2.1 (by omega) (by omega), obs, t1 k q]
  · rw [if_pos (nI_le (by omega) (by omega)), t2 k (by omega)]
theorem ev_run (h : PAt M gb sp G κ) (ht : TB gb tb n) (h1 : G 1 = nI n) (c : Int32) : ∀ (m e : Nat), e ≤ n → n - e < m → fn_X4_endOfRun_2 N m M 2 c (nI e) = some (nI (rn tb n c e), M) := by
  have h3 := ht.2.2
  intro m
  induction m with
  | zero => intro e _ h; omega
  | succ m ih =>
    intro e he hm
    rw [fn_X4_endOfRun_2.eq_2, h.i1, obs, h1]
    by_cases q : e = n
    · subst q
      rw [if_pos (Int32.le_refl _), obs, rn_n]
    · rw [if_neg (nI_ge (by omega) (by omega)), h.ck, obs, ev_byte h ht h1 (by omega), b2s, ev_tok, b2s, rn_lt (show e < n by omega), nI_1, ih (e + 1) (by omega) (by omega)]
      by_cases z : tkO (tb e) = c
      · rw [if_pos z, if_pos z]
      · rw [if_neg z, if_neg z]
/-- the fields behind a token -/
def TkG (tb : Nat → Int32) (n e : Nat) (G G' : Nat → Int32) : Prop := G' 1 = G 1 ∧ G' 2 = tkK tb n e ∧ G' 3 = nI (tkS tb n e) ∧ G' 4 = nI (tkE tb n e) ∧ G' 5 = G 5 ∧ G' 6 = G 6 ∧ G' 7 = G 7 ∧ G' 8 = G 8
theorem pw_tok93 {e : Nat} {k0 : Int32} {l : Nat} (hl : l < 100) {G0 : Nat → Int32} (h : PAt M gb sp G κ) (hd : tkE tb n e - tkS tb n e < 2 ^ 20) (hG : G 1 = G0 1 ∧ G 2 = k0 ∧ G 3 = nI (tkS tb n e) ∧ G 4 = nI (tkE tb n e) ∧ G 5 = G0 5 ∧ G 6 = G0 6 ∧ G 7 = G0 7 ∧ G 8 = G0 8) (hk : tkK tb n e = if tkE tb n e - tkS tb n e ≤ l then k0 else 5) : PW gb sp M (fn_X4_readToken_93 N M 2 (nI l) (nI (tkE tb n e - tkS tb n e))) (fun _ G' κ' => κ' = κ ∧ TkG tb n e G0 G') := by
  unfold fn_X4_readToken_93
  obtain ⟨g1, g2, g3, g4, g5, g6, g7, g8⟩ := hG
  have hc := nI_leI (a := tkE tb n e - tkS tb n e) (b := l) (by omega) (by omega)
  by_cases q : tkE tb n e - tkS tb n e ≤ l
  · rw [if_pos (hc.mpr q)]
    exact PW.ret h ⟨rfl, g1, by rw [hk, if_pos q]; exact g2, g3, g4, g5, g6, g7, g8⟩
  · rw [if_neg (fun z => q (hc.mp z))]
    refine PW.pF h fun M1 h1 => ?_
    exact PW.ret h1 ⟨rfl, g1, by rw [hk, if_neg q]; rfl, g3, g4, g5, g6, g7, g8⟩
theorem pw_tok (hN : 2 ^ 15 ≤ N) (h : PAt M gb sp G κ) (ht : TB gb tb n) (h1 : G 1 = nI n) {e : Nat} (h4 : G 4 = nI e) (he : e ≤ n) : PW gb sp M (fn_X4_readToken N M 2) (fun _ G' κ' => κ' = κ ∧ TkG tb n e G G') := by
  have h3 := ht.2.2
  obtain ⟨b1, b2, b3, b4, b5, b6, b7⟩ := tk_bd ht.2.1 he
  unfold fn_X4_readToken fn_X4_endOfRun
  rw [h.i4, obs, h.ck, obs, h4, ev_run h ht h1 1 N e he (by omega), b2s]
  have eS : rn tb n 1 e = tkS tb n e := rfl
  rw [eS]
  refine PW.pF h fun M1 q1 => ?_
  rw [q1.i3, obs, q1.ck, obs]
  have e3 : upd G 3 (nI (tkS tb n e)) 3 = nI (tkS tb n e) := rfl
  rw [e3, ev_byte q1 ht h1 (by omega), b2s, ev_tok, b2s]
  have eC : tkO (tb (tkS tb n e)) = tkC tb n e := rfl
  rw [eC]
  refine PW.pF q1 fun M2 q2 => ?_
  rw [q2.i3, obs]
  have e4 : upd (upd G 3 (nI (tkS tb n e))) 2 (tkC tb n e) 3 = nI (tkS tb n e) := rfl
  rw [e4, nI_1]
  refine PW.pF q2 fun M3 q3 => ?_
  rw [q3.i2, obs, obs]
  have e5 : upd (upd (upd G 3 (nI (tkS tb n e))) 2 (tkC tb n e)) 4 (nI (tkS tb n e + 1)) 2 = tkC tb n e := rfl
  rw [e5]
  have c54 : ∀ (l : Nat) (k0 : Int32), l < 100 → tkC tb n e = k0 → (k0 = 2 ∧ l = 6 ∨ k0 = 3 ∧ l = 4) → tkE tb n e = rn tb n k0 (tkS tb n e) → (tkK tb n e = if tkE tb n e - tkS tb n e ≤ l then k0 else 5) → PW gb sp M3 (fn_X4_readToken_54 N M3 2) (fun _ G' κ' => κ' = κ ∧ TkG tb n e G G') := by
    intro l k0 hl c1 c2 c3 c4
    unfold fn_X4_readToken_54 fn_X4_endOfRun
    rw [q3.i3, obs, q3.i2, obs, q3.ck, obs]
    have e6 : upd (upd (upd G 3 (nI (tkS tb n e))) 2 (tkC tb n e)) 4 (nI (tkS tb n e + 1)) 3 = nI (tkS tb n e) := rfl
    rw [e5, e6, ev_run q3 ht h1 _ N _ b2 (by omega), b2s, c1, ← c3]
    refine PW.pF q3 fun M4 q4 => ?_
    rw [q4.i4, obs, q4.i3, obs, q4.i2, obs]
    have e7 : upd (upd (upd (upd G 3 (nI (tkS tb n e))) 2 (tkC tb n e)) 4 (nI (tkS tb n e + 1))) 4 (nI (tkE tb n e)) 4 = nI (tkE tb n e) := rfl
    have e8 : upd (upd (upd (upd G 3 (nI (tkS tb n e))) 2 (tkC tb n e)) 4 (nI (tkS tb n e + 1))) 4 (nI (tkE tb n e)) 3 = nI (tkS tb n e) := rfl
    have e9 : upd (upd (upd (upd G 3 (nI (tkS tb n e))) 2 (tkC tb n e)) 4 (nI (tkS tb n e + 1))) 4 (nI (tkE tb n e)) 2 = k0 := c1
    rw [e7, e8, e9, pk_sub b5]
    rcases c2 with ⟨rfl, rfl⟩ | ⟨rfl, rfl⟩
    · rw [if_pos rfl]
      exact pw_tok93 (N := N) (l := 6) (k0 := 2) (by omega) (G0 := G) q4 (by omega) ⟨rfl, c1, rfl, rfl, rfl, rfl, rfl, rfl⟩ c4
    · rw [if_neg (by decide)]
      exact pw_tok93 (N := N) (l := 4) (k0 := 3) (by omega) (G0 := G) q4 (by omega) ⟨rfl, c1, rfl, rfl, rfl, rfl, rfl, rfl⟩ c4
  by_cases c2 : tkC tb n e = 2
  · rw [if_pos c2]
    exact c54 6 2 (by omega) c2 (Or.inl ⟨rfl, rfl⟩) (by unfold tkE; rw [if_pos c2]) (by unfold tkK; rw [if_pos c2])
  · rw [if_neg c2]
    by_cases c3 : tkC tb n e = 3
    · rw [if_pos c3]
      exact c54 4 3 (by omega) c3 (Or.inr ⟨rfl, rfl⟩) (by unfold tkE; rw [if_neg c2, if_pos c3]) (by unfold tkK; rw [if_neg c2, if_pos c3])
    · rw [if_neg c3]
      refine PW.ret q3 ⟨rfl, rfl, ?_, rfl, ?_, rfl, rfl, rfl, rfl⟩
      · show tkC tb n e = tkK tb n e
        unfold tkK
        rw [if_neg c2, if_neg c3]
      · show nI (tkS tb n e + 1) = nI (tkE tb n e)
        unfold tkE
        rw [if_neg c2, if_neg c3]
theorem ev_num (h : PAt M gb sp G κ) (ht : TB gb tb n) (h1 : G 1 = nI n) {s E : Nat} (h4 : G 4 = nI E) (hE : E ≤ 900) : ∀ (m k : Nat), s + k ≤ E → E - (s + k) < m → fn_X4_number_7 N m M 2 (numI tb s k) (nI (s + k)) = some (numI tb s (E - s), M) := by
  intro m
  induction m with
  | zero => intro k _ h; omega
  | succ m ih =>
    intro k hk hm
    rw [fn_X4_number_7.eq_2, h.i4, obs, h4]
    by_cases q : s + k = E
    · rw [if_pos (by rw [q]; exact Int32.le_refl _), show E - s = k by omega]
    · rw [if_neg (nI_ge (by omega) (by omega)), h.ck, obs, ev_byte h ht h1 (by omega), b2s, nI_1]
      exact ih (k + 1) (by omega) (by omega)
theorem ev_number (hN : 2 ^ 15 ≤ N) (h : PAt M gb sp G κ) (ht : TB gb tb n) (h1 : G 1 = nI n) {s E : Nat} (h3 : G 3 = nI s) (h4 : G 4 = nI E) (hE : E ≤ 900) (hs : s ≤ E) : fn_X4_number N M 2 = some (numI tb s (E - s), M) := by
  unfold fn_X4_number
  rw [h.i3, obs, h3]
  exact ev_num (N := N) (s := s) h ht h1 h4 hE N 0 (by omega) (by omega)
end TKx
