/-! PURE: State, Config, History -/
/-- a machine's state: five numbers, ten rows -/
abbrev St : Type := (Nat → Int32) × (Nat → List Int32)
abbrev Cf : Type := (Nat → Int32) × (Nat → List Int32)
def capS (r : Nat) : Nat := [60, 20, 8, 4, 40, 30, 30, 30, 40, 40].getD r 0
def stF (s : Nat) (g : Nat → Int32) : List Value := [.int (g 0), .int (g 1), .int (g 2), .int (g 3), .int (g 4), .ref (s + 1), .ref (s + 3), .ref (s + 5), .ref (s + 7), .ref (s + 9), .ref (s + 11), .ref (s + 13), .ref (s + 15), .ref (s + 17), .ref (s + 19)]
def StAt (M : Mem) (s : Nat) (σ : St) : Prop := M[s]? = some (.inr (7, stF s σ.1)) ∧ (σ.1 3 = 0 ∨ σ.1 3 = 1) ∧ ∀ r, r < 10 → RowAt M (s + 1 + 2 * r) (capS r) (σ.2 r)
theorem stF_set {s k : Nat} {g : Nat → Int32} {v : Int32} (hk : k < 5) : (stF s g).set k (.int v) = stF s (upd g k v) := by
  rcases (show k = 0 ∨ k = 1 ∨ k = 2 ∨ k = 3 ∨ k = 4 by omega) with rfl | rfl | rfl | rfl | rfl <;> rfl
theorem stF_get {s k : Nat} {g : Nat → Int32} (hk : k < 5) : (stF s g)[k]? = some (.int (g k)) := by
  rcases (show k = 0 ∨ k = 1 ∨ k = 2 ∨ k = 3 ∨ k = 4 by omega) with rfl | rfl | rfl | rfl | rfl <;> rfl
theorem StAt.keep {M M' : Mem} {s lo hi : Nat} {σ : St} (h : StAt M s σ) (hf : Fr M M' lo hi) (hd : s + 21 ≤ lo ∨ hi ≤ s) : StAt M' s σ :=
  ⟨by rw [hf.2 s (by omega)]; exact h.1, h.2.1, fun r hr => (h.2.2 r hr).keep hf (by omega)⟩
theorem StAt.ext {M : Mem} {s : Nat} {σ σ' : St} (h : StAt M s σ) (h1 : ∀ k, k < 5 → σ'.1 k = σ.1 k) (h2 : ∀ r, r < 10 → σ'.2 r = σ.2 r) : StAt M s σ' := by
  refine ⟨?_, by rw [h1 3 (by decide)]; exact h.2.1, fun r hr => by rw [h2 r hr]; exact h.2.2 r hr⟩
  rw [h.1]
  simp only [stF, h1 0 (by decide), h1 1 (by decide), h1 2 (by decide), h1 3 (by decide), h1 4 (by decide)]
theorem StAt.gI {M : Mem} {s k : Nat} {σ : St} (h : StAt M s σ) (hk : k < 5) : mm_gI M s 7 k = some (σ.1 k) := ev_gI h.1 (stF_get hk)
theorem StAt.ck {M : Mem} {s : Nat} {σ : St} (h : StAt M s σ) : mm_ck M s 7 = some () := ev_ck h.1
theorem StAt.row {M M' : Mem} {s r : Nat} {σ : St} {l : List Int32} (h : StAt M s σ) (hr : r < 10) (h1 : RowAt M' (s + 1 + 2 * r) (capS r) l) (hf : Fr M M' (s + 1 + 2 * r) (s + 1 + 2 * r + 2)) : StAt M' s (σ.1, va_up σ.2 r l) := by
  refine ⟨by rw [hf.2 s (by omega)]; exact h.1, h.2.1, fun q hq => ?_⟩
  by_cases he : q = r
  · subst he
    simp only [va_up, if_true]
    exact h1
  · simp only [va_up, if_neg he]
    exact (h.2.2 q hq).keep hf (by omega)
theorem StAt.num {M : Mem} {s k : Nat} {σ : St} (h : StAt M s σ) (hk : k < 5) (v : Int32) (hv : k = 3 → v = 0 ∨ v = 1) : ∃ M', mm_pV M s 7 k (.int v) = some M' ∧ StAt M' s (upd σ.1 k v, σ.2) ∧ Fr M M' s (s + 1) := by
  refine ⟨M.set s (.inr (7, stF s (upd σ.1 k v))), ?_, ⟨st_self h.1, ?_, fun r hr => (h.2.2 r hr).keep (Fr.set (lo := s) (hi := s + 1) (by omega) (by omega)) (by omega)⟩, Fr.set (by omega) (by omega)⟩
  · rw [ev_pV h.1 (by simp [stF]; omega), stF_set hk]
  · show upd σ.1 k v 3 = 0 ∨ upd σ.1 k v 3 = 1
    by_cases h3 : k = 3
    · subst h3; rw [pk_us]; exact hv rfl
    · rw [pk_un (Ne.symm h3)]; exact h.2.1
theorem StAt.numZ {M : Mem} {s : Nat} {σ : St} (h : StAt M s σ) (v : Int32) (hv : v = 0 ∨ v = 1) : ∃ M', mm_pZ M s 7 3 v = some M' ∧ StAt M' s (upd σ.1 3 v, σ.2) ∧ Fr M M' s (s + 1) := by
  unfold mm_pZ
  rw [if_pos hv]
  exact h.num (by decide) v (fun _ => hv)
theorem StAt.r0 {M : Mem} {s : Nat} {σ : St} (h : StAt M s σ) : RowAt M (s + 1) 60 (σ.2 0) := h.2.2 0 (by decide)
theorem StAt.g0 {M : Mem} {s : Nat} {σ : St} (h : StAt M s σ) : mm_gR M s 7 5 = some (s + 1) := ev_gR h.1 rfl
theorem StAt.u0 {M M' : Mem} {s : Nat} {σ : St} {l : List Int32} (h : StAt M s σ) (h1 : RowAt M' (s + 1) 60 l) (hf : Fr M M' (s + 1) (s + 1 + 2)) : StAt M' s (σ.1, va_up σ.2 0 l) := h.row (by decide) h1 hf
theorem StAt.r1 {M : Mem} {s : Nat} {σ : St} (h : StAt M s σ) : RowAt M (s + 3) 20 (σ.2 1) := h.2.2 1 (by decide)
theorem StAt.g1 {M : Mem} {s : Nat} {σ : St} (h : StAt M s σ) : mm_gR M s 7 6 = some (s + 3) := ev_gR h.1 rfl
theorem StAt.u1 {M M' : Mem} {s : Nat} {σ : St} {l : List Int32} (h : StAt M s σ) (h1 : RowAt M' (s + 3) 20 l) (hf : Fr M M' (s + 3) (s + 3 + 2)) : StAt M' s (σ.1, va_up σ.2 1 l) := h.row (by decide) h1 hf
theorem StAt.r2 {M : Mem} {s : Nat} {σ : St} (h : StAt M s σ) : RowAt M (s + 5) 8 (σ.2 2) := h.2.2 2 (by decide)
theorem StAt.g2 {M : Mem} {s : Nat} {σ : St} (h : StAt M s σ) : mm_gR M s 7 7 = some (s + 5) := ev_gR h.1 rfl
theorem StAt.u2 {M M' : Mem} {s : Nat} {σ : St} {l : List Int32} (h : StAt M s σ) (h1 : RowAt M' (s + 5) 8 l) (hf : Fr M M' (s + 5) (s + 5 + 2)) : StAt M' s (σ.1, va_up σ.2 2 l) := h.row (by decide) h1 hf
theorem StAt.r3 {M : Mem} {s : Nat} {σ : St} (h : StAt M s σ) : RowAt M (s + 7) 4 (σ.2 3) := h.2.2 3 (by decide)
theorem StAt.g3 {M : Mem} {s : Nat} {σ : St} (h : StAt M s σ) : mm_gR M s 7 8 = some (s + 7) := ev_gR h.1 rfl
theorem StAt.u3 {M M' : Mem} {s : Nat} {σ : St} {l : List Int32} (h : StAt M s σ) (h1 : RowAt M' (s + 7) 4 l) (hf : Fr M M' (s + 7) (s + 7 + 2)) : StAt M' s (σ.1, va_up σ.2 3 l) := h.row (by decide) h1 hf
theorem StAt.r4 {M : Mem} {s : Nat} {σ : St} (h : StAt M s σ) : RowAt M (s + 9) 40 (σ.2 4) := h.2.2 4 (by decide)
theorem StAt.g4 {M : Mem} {s : Nat} {σ : St} (h : StAt M s σ) : mm_gR M s 7 9 = some (s + 9) := ev_gR h.1 rfl
theorem StAt.u4 {M M' : Mem} {s : Nat} {σ : St} {l : List Int32} (h : StAt M s σ) (h1 : RowAt M' (s + 9) 40 l) (hf : Fr M M' (s + 9) (s + 9 + 2)) : StAt M' s (σ.1, va_up σ.2 4 l) := h.row (by decide) h1 hf
theorem StAt.r5 {M : Mem} {s : Nat} {σ : St} (h : StAt M s σ) : RowAt M (s + 11) 30 (σ.2 5) := h.2.2 5 (by decide)
theorem StAt.g5 {M : Mem} {s : Nat} {σ : St} (h : StAt M s σ) : mm_gR M s 7 10 = some (s + 11) := ev_gR h.1 rfl
theorem StAt.u5 {M M' : Mem} {s : Nat} {σ : St} {l : List Int32} (h : StAt M s σ) (h1 : RowAt M' (s + 11) 30 l) (hf : Fr M M' (s + 11) (s + 11 + 2)) : StAt M' s (σ.1, va_up σ.2 5 l) := h.row (by decide) h1 hf
theorem StAt.r6 {M : Mem} {s : Nat} {σ : St} (h : StAt M s σ) : RowAt M (s + 13) 30 (σ.2 6) := h.2.2 6 (by decide)
theorem StAt.g6 {M : Mem} {s : Nat} {σ : St} (h : StAt M s σ) : mm_gR M s 7 11 = some (s + 13) := ev_gR h.1 rfl
theorem StAt.u6 {M M' : Mem} {s : Nat} {σ : St} {l : List Int32} (h : StAt M s σ) (h1 : RowAt M' (s + 13) 30 l) (hf : Fr M M' (s + 13) (s + 13 + 2)) : StAt M' s (σ.1, va_up σ.2 6 l) := h.row (by decide) h1 hf
theorem StAt.r7 {M : Mem} {s : Nat} {σ : St} (h : StAt M s σ) : RowAt M (s + 15) 30 (σ.2 7) := h.2.2 7 (by decide)
theorem StAt.g7 {M : Mem} {s : Nat} {σ : St} (h : StAt M s σ) : mm_gR M s 7 12 = some (s + 15) := ev_gR h.1 rfl
theorem StAt.u7 {M M' : Mem} {s : Nat} {σ : St} {l : List Int32} (h : StAt M s σ) (h1 : RowAt M' (s + 15) 30 l) (hf : Fr M M' (s + 15) (s + 15 + 2)) : StAt M' s (σ.1, va_up σ.2 7 l) := h.row (by decide) h1 hf
theorem StAt.r8 {M : Mem} {s : Nat} {σ : St} (h : StAt M s σ) : RowAt M (s + 17) 40 (σ.2 8) := h.2.2 8 (by decide)
theorem StAt.g8 {M : Mem} {s : Nat} {σ : St} (h : StAt M s σ) : mm_gR M s 7 13 = some (s + 17) := ev_gR h.1 rfl
theorem StAt.u8 {M M' : Mem} {s : Nat} {σ : St} {l : List Int32} (h : StAt M s σ) (h1 : RowAt M' (s + 17) 40 l) (hf : Fr M M' (s + 17) (s + 17 + 2)) : StAt M' s (σ.1, va_up σ.2 8 l) := h.row (by decide) h1 hf
theorem StAt.r9 {M : Mem} {s : Nat} {σ : St} (h : StAt M s σ) : RowAt M (s + 19) 40 (σ.2 9) := h.2.2 9 (by decide)
theorem StAt.g9 {M : Mem} {s : Nat} {σ : St} (h : StAt M s σ) : mm_gR M s 7 14 = some (s + 19) := ev_gR h.1 rfl
theorem StAt.u9 {M M' : Mem} {s : Nat} {σ : St} {l : List Int32} (h : StAt M s σ) (h1 : RowAt M' (s + 19) 40 l) (hf : Fr M M' (s + 19) (s + 19 + 2)) : StAt M' s (σ.1, va_up σ.2 9 l) := h.row (by decide) h1 hf
theorem st_copy {N : Nat} {M : Mem} {s t : Nat} {σ τ : St} (h : StAt M s σ) (h' : StAt M t τ) (hd : s + 21 ≤ t ∨ t + 21 ≤ s) : ∃ M', fn_X7_copyFrom N M s t = some ((), M') ∧ StAt M' s τ ∧ Fr M M' s (s + 21) := by
  unfold fn_X7_copyFrom
  rw [h'.gI (k := 0) (by decide), Option.bind_some]
  obtain ⟨M0, e0, h0, f0⟩ := h.num (k := 0) (by decide) (τ.1 0) (fun h => by omega)
  rw [e0, Option.bind_some]
  have h' := h'.keep f0 (by omega)
  rw [h'.gI (k := 1) (by decide), Option.bind_some]
  obtain ⟨M1, e1, h1, f1⟩ := h0.num (k := 1) (by decide) (τ.1 1) (fun h => by omega)
  rw [e1, Option.bind_some]
  have h' := h'.keep f1 (by omega)
  rw [h'.gI (k := 2) (by decide), Option.bind_some]
  obtain ⟨M2, e2, h2, f2⟩ := h1.num (k := 2) (by decide) (τ.1 2) (fun h => by omega)
  rw [e2, Option.bind_some]
  have h' := h'.keep f2 (by omega)
  rw [h'.gI (k := 3) (by decide), Option.bind_some]
  obtain ⟨M3, e3, h3, f3⟩ := h2.numZ (τ.1 3) h'.2.1
  rw [e3, Option.bind_some]
  have h' := h'.keep f3 (by omega)
  rw [h'.gI (k := 4) (by decide), Option.bind_some]
  obtain ⟨M4, e4, h4, f4⟩ := h3.num (k := 4) (by decide) (τ.1 4) (fun h => by omega)
  rw [e4, Option.bind_some]
  have h' := h'.keep f4 (by omega)
  rw [h4.g0, Option.bind_some, h'.g0, Option.bind_some, row_ck h4.r0, Option.bind_some]
  obtain ⟨M5, e5, r5, f5⟩ := row_copy (N := N) h4.r0 h'.r0 (by have := h'.r0; obtain ⟨_, _, _, q, _⟩ := this; exact q) (by omega)
  rw [e5]
  simp only [mm_b2]
  have h5 := h4.u0 r5 f5
  have h' := h'.keep f5 (by omega)
  rw [h5.g1, Option.bind_some, h'.g1, Option.bind_some, row_ck h5.r1, Option.bind_some]
  obtain ⟨M6, e6, r6, f6⟩ := row_copy (N := N) h5.r1 h'.r1 (by have := h'.r1; obtain ⟨_, _, _, q, _⟩ := this; exact q) (by omega)
  rw [e6]
  simp only [mm_b2]
  have h6 := h5.u1 r6 f6
  have h' := h'.keep f6 (by omega)
  rw [h6.g2, Option.bind_some, h'.g2, Option.bind_some, row_ck h6.r2, Option.bind_some]
  obtain ⟨M7, e7, r7, f7⟩ := row_copy (N := N) h6.r2 h'.r2 (by have := h'.r2; obtain ⟨_, _, _, q, _⟩ := this; exact q) (by omega)
  rw [e7]
  simp only [mm_b2]
  have h7 := h6.u2 r7 f7
  have h' := h'.keep f7 (by omega)
  rw [h7.g3, Option.bind_some, h'.g3, Option.bind_some, row_ck h7.r3, Option.bind_some]
  obtain ⟨M8, e8, r8, f8⟩ := row_copy (N := N) h7.r3 h'.r3 (by have := h'.r3; obtain ⟨_, _, _, q, _⟩ := this; exact q) (by omega)
  rw [e8]
  simp only [mm_b2]
  have h8 := h7.u3 r8 f8
  have h' := h'.keep f8 (by omega)
  rw [h8.g4, Option.bind_some, h'.g4, Option.bind_some, row_ck h8.r4, Option.bind_some]
  obtain ⟨M9, e9, r9, f9⟩ := row_copy (N := N) h8.r4 h'.r4 (by have := h'.r4; obtain ⟨_, _, _, q, _⟩ := this; exact q) (by omega)
  rw [e9]
  simp only [mm_b2]
  have h9 := h8.u4 r9 f9
  have h' := h'.keep f9 (by omega)
  rw [h9.g5, Option.bind_some, h'.g5, Option.bind_some, row_ck h9.r5, Option.bind_some]
  obtain ⟨M10, e10, r10, f10⟩ := row_copy (N := N) h9.r5 h'.r5 (by have := h'.r5; obtain ⟨_, _, _, q, _⟩ := this; exact q) (by omega)
  rw [e10]
  simp only [mm_b2]
  have h10 := h9.u5 r10 f10
  have h' := h'.keep f10 (by omega)
  rw [h10.g6, Option.bind_some, h'.g6, Option.bind_some, row_ck h10.r6, Option.bind_some]
  obtain ⟨M11, e11, r11, f11⟩ := row_copy (N := N) h10.r6 h'.r6 (by have := h'.r6; obtain ⟨_, _, _, q, _⟩ := this; exact q) (by omega)
  rw [e11]
  simp only [mm_b2]
  have h11 := h10.u6 r11 f11
  have h' := h'.keep f11 (by omega)
  rw [h11.g7, Option.bind_some, h'.g7, Option.bind_some, row_ck h11.r7, Option.bind_some]
  obtain ⟨M12, e12, r12, f12⟩ := row_copy (N := N) h11.r7 h'.r7 (by have := h'.r7; obtain ⟨_, _, _, q, _⟩ := this; exact q) (by omega)
  rw [e12]
  simp only [mm_b2]
  have h12 := h11.u7 r12 f12
  have h' := h'.keep f12 (by omega)
  rw [h12.g8, Option.bind_some, h'.g8, Option.bind_some, row_ck h12.r8, Option.bind_some]
  obtain ⟨M13, e13, r13, f13⟩ := row_copy (N := N) h12.r8 h'.r8 (by have := h'.r8; obtain ⟨_, _, _, q, _⟩ := this; exact q) (by omega)
  rw [e13]
  simp only [mm_b2]
  have h13 := h12.u8 r13 f13
  have h' := h'.keep f13 (by omega)
  rw [h13.g9, Option.bind_some, h'.g9, Option.bind_some, row_ck h13.r9, Option.bind_some]
  obtain ⟨M14, e14, r14, f14⟩ := row_copy (N := N) h13.r9 h'.r9 (by have := h'.r9; obtain ⟨_, _, _, q, _⟩ := this; exact q) (by omega)
  rw [e14]
  simp only [mm_b2]
  have h14 := h13.u9 r14 f14
  have h' := h'.keep f14 (by omega)
  refine ⟨M14, rfl, h14.ext (fun k hk => ?_) (fun r hr => ?_), ?_⟩
  · rcases (show k = 0 ∨ k = 1 ∨ k = 2 ∨ k = 3 ∨ k = 4 by omega) with rfl | rfl | rfl | rfl | rfl <;> rfl
  · rcases (show r = 0 ∨ r = 1 ∨ r = 2 ∨ r = 3 ∨ r = 4 ∨ r = 5 ∨ r = 6 ∨ r = 7 ∨ r = 8 ∨ r = 9 by omega) with rfl | rfl | rfl | rfl | rfl | rfl | rfl | rfl | rfl | rfl <;> rfl
  · exact (((((((((((((((f0.mono (by omega) (by omega)).tr (f1.mono (by omega) (by omega))).tr (f2.mono (by omega) (by omega))).tr (f3.mono (by omega) (by omega))).tr (f4.mono (by omega) (by omega))).tr (f5.mono (by omega) (by omega))).tr (f6.mono (by omega) (by omega))).tr (f7.mono (by omega) (by omega))).tr (f8.mono (by omega) (by omega))).tr (f9.mono (by omega) (by omega))).tr (f10.mono (by omega) (by omega))).tr (f11.mono (by omega) (by omega))).tr (f12.mono (by omega) (by omega))).tr (f13.mono (by omega) (by omega))).tr (f14.mono (by omega) (by omega)))
def addRec (l : List Int32) (x : Int32) : List Int32 := if l.length < 40 then l ++ [x] else l.eraseIdx 0 ++ [x]
theorem st_rec {N : Nat} {M : Mem} {s : Nat} {σ : St} (h : StAt M s σ) (x : Int32) (hN : 2 ^ 15 ≤ N) : ∃ M', fn_X7_addRecord N M s x = some ((), M') ∧ StAt M' s (σ.1, va_up σ.2 4 (addRec (σ.2 4) x)) ∧ Fr M M' s (s + 21) := by
  unfold fn_X7_addRecord addRec
  rw [h.g4, Option.bind_some, row_ck h.r4, Option.bind_some, row_isFull h.r4]
  simp only [mm_b2]
  have hl : (σ.2 4).length ≤ 40 := by obtain ⟨_, _, _, q, _⟩ := h.r4; exact q
  by_cases hc : (σ.2 4).length < 40
  · rw [if_pos hc, if_pos rfl, if_pos hc, h.g4, Option.bind_some, row_ck h.r4, Option.bind_some]
    obtain ⟨M1, e1, r1, f1⟩ := row_add (N := N) h.r4 hc x
    rw [e1]
    exact ⟨M1, rfl, h.u4 r1 f1, f1.mono (by omega) (by omega)⟩
  · rw [if_neg hc, if_neg (by decide), if_neg hc, h.g4, Option.bind_some, row_ck h.r4, Option.bind_some]
    obtain ⟨M1, e1, r1, f1⟩ := row_rem (N := N) (j := 0) h.r4 (by omega) hN
    rw [nI_0] at e1
    rw [e1]
    have h1 := h.u4 r1 f1
    simp only
    rw [h1.g4, Option.bind_some, row_ck h1.r4, Option.bind_some]
    obtain ⟨M2, e2, r2, f2⟩ := row_add (N := N) h1.r4 (by simp [va_up, List.length_eraseIdx]; omega) x
    rw [e2]
    refine ⟨M2, rfl, (h1.u4 r2 f2).ext (fun _ _ => rfl) (fun r hr => ?_), (f1.mono (by omega) (by omega)).tr (f2.mono (by omega) (by omega))⟩
    by_cases h4 : r = 4
    · subst h4; simp [va_up]
    · simp [va_up, h4]
