/-! EXPLORATIONS: the model keeps a state -/
section MK2
variable {b E m k n i p d h : Nat} {μ ν μ' ν' : zM} {c s f c' s' f' S S' : Nat → Int32} {v w u par chv : Int32} {ρ : zE}
noncomputable def b01 (P : Prop) : Nat := @ite Nat P (Classical.propDecidable P) 1 0
theorem b01_T {P : Prop} (h : P) : b01 P = 1 := by unfold b01; exact if_pos h
theorem b01_F {P : Prop} (h : ¬ P) : b01 P = 0 := by unfold b01; exact if_neg h
theorem b01_lt {P : Prop} : b01 P < 2 := by
  by_cases h : P
  · rw [b01_T h]; omega
  · rw [b01_F h]; omega
theorem b01_cg {P P' : Prop} (h : P ↔ P') : b01 P = b01 P' := by rw [propext h]
/-- an end keeps the moments -/
def kepS (μ : zM) (b : Nat) (c : Nat → Int32) : Prop := ∃ l : List Nat, l.Nodup ∧ (∀ x ∈ l, x < 9 ∧ cOk μ b x) ∧ l.length ≤ 6 ∧ c 27 = nI (encO l) ∧ folP μ b c l
noncomputable def mkN (μ : zM) (b : Nat) (c : Nat → Int32) : Nat := b01 (noS c (cN μ b)) + 2 * b01 (noS c (cN μ b) ∧ findP μ b c) + 4 * b01 (noS c (cN μ b) ∧ ¬ μ (b + 1) 8 = nI 0 ∧ kepS μ b c) + 8 * b01 (errS c)
theorem W_ord (W : Wn μ b c s) : ∃ l : List Nat, l.Nodup ∧ (∀ x ∈ l, x < 9 ∧ cOk μ b x) ∧ l.length ≤ 6 ∧ c 27 = nI (encO l) ∧ s 99 = nI (encO l) := by
  have ho := W.1 99 (by omega)
  unfold rl at ho
  rw [show pos false 99 = 27 by decide] at ho
  have h2 : relO (cOk μ b) (c 27) (s 99) := by simpa using ho
  exact h2
theorem tv_iff {r : Int32} {P P' : Prop} (h : P ↔ P') (t : tv r P) : tv r P' := by
  rcases t with ⟨e, q⟩ | ⟨e, q⟩
  · exact Or.inl ⟨e, h.mp q⟩
  · exact Or.inr ⟨e, fun z => q (h.mpr z)⟩
theorem tv_b {r : Int32} {P : Prop} (t : tv r P) : r = nI (b01 P) := by
  rcases t with ⟨e, q⟩ | ⟨e, q⟩
  · rw [e, b01_T q]
  · rw [e, b01_F q]
/-- the class's judge of moments by what is said of the end -/
theorem e_kepS {J : Nat} (C : Ctx b m μ ν) (W : Wn μ b (μ (b + 8)) s) (hm : ¬ μ (b + 1) 8 = nI 0) (hJ : J + 8 < b ∨ b + 9 < J + 2) : ∃ μ1, (∀ Q, wr (M_X3_followsMoments J b [] μ) Q = Q (nI (b01 (kepS μ b (μ (b + 8))))) μ1) ∧ ∀ a, (a < J + 2 ∨ J + 8 < a) → μ1 a = μ a := by
  obtain ⟨l, nd, hl, l6, o1, o2⟩ := W_ord W
  have key : ∀ l : List Nat, (∀ x ∈ l, x < 9) → l.length ≤ 6 → μ (b + 8) 27 = nI (encO l) → ∃ r m1, M_X3_followsMoments J b [] μ = some (r, m1) ∧ tv r (folP μ b (μ (b + 8)) l) ∧ ∀ a, (a < J + 2 ∨ J + 8 < a) → m1 a = μ a := fun l g1 g2 g3 => wr_get (e_follows (J := J) (C.pj hm) hJ rfl g1 g2 g3)
  obtain ⟨r, μ1, e1, t1, f1⟩ := key l (fun x hx => (hl x hx).1) l6 o1
  refine ⟨μ1, fun Q => ?_, f1⟩
  have : tv r (kepS μ b (μ (b + 8))) := by
    rcases t1 with ⟨q, t1⟩ | ⟨q, t1⟩
    · exact Or.inl ⟨q, l, nd, hl, l6, o1, t1⟩
    · refine Or.inr ⟨q, ?_⟩
      rintro ⟨l', nd', hl', l6', o1', t'⟩
      obtain ⟨r', μ1', e1', t1', -⟩ := key l' (fun x hx => (hl' x hx).1) l6' o1'
      rw [e1] at e1'
      cases e1'
      rcases t1' with ⟨q', -⟩ | ⟨-, t1'⟩
      · rw [q] at q'; exact absurd q' (by decide)
      · exact t1' t'
  rw [e1, ← tv_b this]
  rfl
theorem e_agrS {J : Nat} (C : Ctx b m μ ν) (hJ : J + 8 < b ∨ b + 9 < J + 2) : ∃ μ1, (∀ Q, wr (M_X3_findsOrder J b [] μ) Q = Q (nI (b01 (findP μ b (μ (b + 8))))) μ1) ∧ ∀ a, (a < J + 2 ∨ J + 8 < a) → μ1 a = μ a := by
  obtain ⟨r, μ1, e1, t1, f1⟩ := wr_get (e_finds (J := J) (fun h => C.pj h) hJ rfl)
  exact ⟨μ1, fun Q => by rw [e1, ← tv_b t1]; rfl, f1⟩
theorem g_agrS (C : Ctx b m μ ν) (W : Wn μ b c s) (hE : noS c (cN μ b)) (f : Nat → Int32) : ∃ ν1 f', (∀ Q, wr (M_X9_agreesNow m [] (zmm ν m s f)) Q = Q (nI (b01 (findP μ b c))) (zmm ν1 m s f')) ∧ (∀ j, j ≠ 7 → j ≠ 8 → j ≠ 9 → f' j = f j) ∧ ∀ a, a ≠ m → a ≠ m + 3 → a ≠ m + 4 → a ≠ m + 5 → ν1 a = ν a := by
  have C3 : Ctx b m μ (zsa ν (m + 3) s) := C.s3
  have PP : ¬ zsa ν (m + 3) s (m + 2) 950 = 0 → PN (zsa ν (m + 3) s) m ∧ PC (zsa ν (m + 3) s) m := fun h => ⟨C3.pn (by rw [← C3.mdE]; exact h), C3.pc⟩
  have same := find_same C3 W (fun he => hE.over he)
  have G := g_agrees (tr := ν (m + 5)) (pl := ν (m + 4)) (f := f) PP (show zsa ν (m + 3) s (m + 3) = s from m_sa)
  rw [← mm_mj] at G
  obtain ⟨r', ν', e2, t2, mA⟩ := wr_get G
  obtain ⟨ν1, f', rfl, h1, h2⟩ := memA_sc mA
  exact ⟨ν1, f', fun Q => by rw [e2, tv_b (tv_iff same.symm t2)]; rfl, h1, h2⟩
theorem g_kepS (C : Ctx b m μ ν) (W : Wn μ b c s) (hE : noS c (cN μ b)) (hm : ¬ μ (b + 1) 8 = nI 0) (f : Nat → Int32) : ∃ ν1 f', (∀ Q, wr (M_X9_keepsNow m [] (zmm ν m s f)) Q = Q (nI (b01 (kepS μ b c))) (zmm ν1 m s f')) ∧ (∀ j, j ≠ 7 → j ≠ 8 → j ≠ 9 → f' j = f j) ∧ ∀ a, a ≠ m → a ≠ m + 3 → a ≠ m + 4 → a ≠ m + 5 → ν1 a = ν a := by
  have C3 : Ctx b m μ (zsa ν (m + 3) s) := C.s3
  have key : ∀ l : List Nat, l.Nodup → (∀ x ∈ l, x < 9 ∧ cOk μ b x) → l.length ≤ 6 → s 99 = nI (encO l) → ∃ r m1, M_X9_keepsNow m [] (zmm ν m s f) = some (r, m1) ∧ tv r (folP μ b c l) ∧ memA (zsa ν (m + 3) s) m f m1 := by
    intro l nd hl l6 o2
    have same := fol_same (l := l) C3 W (fun he => hE.over he) hm nd hl
    have G := g_keeps (tr := ν (m + 5)) (pl := ν (m + 4)) (f := f) (C3.pn hm) C3.pc (show zsa ν (m + 3) s (m + 3) = s from m_sa) (fun x hx => (hl x hx).1) l6 o2
    rw [← mm_mj] at G
    obtain ⟨r', ν', e2, t2, mA⟩ := wr_get G
    refine ⟨r', ν', e2, tv_iff ?_ t2, mA⟩
    exact ⟨fun q => same.mpr ⟨kep_nf C3 W q, q⟩, fun q => (same.mp q).2⟩
  obtain ⟨l, nd, hl, l6, o1, o2⟩ := W_ord W
  obtain ⟨r, m1, e1, t1, mA⟩ := key l nd hl l6 o2
  obtain ⟨ν1, f', rfl, h1, h2⟩ := memA_sc mA
  refine ⟨ν1, f', fun Q => ?_, h1, h2⟩
  have : tv r (kepS μ b c) := by
    rcases t1 with ⟨q, t1⟩ | ⟨q, t1⟩
    · exact Or.inl ⟨q, l, nd, hl, l6, o1, t1⟩
    · refine Or.inr ⟨q, ?_⟩
      rintro ⟨l', nd', hl', l6', o1', t'⟩
      obtain ⟨r', μ1', e1', t1', -⟩ := key l' nd' hl' l6' (by rw [o2, ← o1, o1'])
      rw [e1] at e1'
      cases e1'
      rcases t1' with ⟨q', -⟩ | ⟨-, t1'⟩
      · rw [q] at q'; exact absurd q' (by decide)
      · exact t1' t'
  rw [e1, ← tv_b this]
  rfl
theorem g_errS (W : Wn μ b c s) : ∀ Q, wr (M_X9_hasFinding m [] (zmm ν m s f)) Q = Q (nI (b01 (errS c))) (zmm ν m s f) := by
  have G := g_hasFinding (ν := zsa (zsa ν (m + 3) s) (m + 5) (ν (m + 5))) (m := m) (pl := ν (m + 4)) (f := f)
  rw [← mm_mj] at G
  obtain ⟨r, m', e, t, rfl⟩ := wr_get G
  intro Q
  have t' : tv r (errS c) := by
    refine tv_iff ?_ t
    rw [R_err W.1, show zsa (zsa ν (m + 3) s) (m + 5) (ν (m + 5)) (m + 3) = s by rw [m_ne (by omega), m_sa]]
    rfl
  rw [e, ← tv_b t']
  rfl
theorem Ctx.cgM (C : Ctx b m μ ν) (h : ν' (m + 2) = ν (m + 2)) : Ctx b m μ ν' := by
  unfold Ctx at C ⊢
  rw [h]
  exact C
end MK2
