/-! ORDERS OF CALLS: what is looked for, without pictures of memory. d: the calls that are done, as bits; Z: what is on the shelf -/
section ORD
variable {isC : Nat → Prop} {BF : Nat → Int32} {Z : Type} {sv : Nat → Z → Bool × Z}
def canO (isC : Nat → Prop) (BF : Nat → Int32) (s d : Nat) : Prop := isC s ∧ d.testBit s = false ∧ BF s &&& (nI d ^^^ (-1)) = 0
def CmpO (isC : Nat → Prop) (BF : Nat → Int32) (sv : Nat → Z → Bool × Z) : Nat → Nat → Z → Prop
  | 0, _, _ => True
  | n + 1, d, y => ∃ s, s < 9 ∧ canO isC BF s d ∧ (sv s y).1 = true ∧ CmpO isC BF sv n (d ||| 2 ^ s) (sv s y).2
noncomputable def cdO (isC : Nat → Prop) (d : Nat) : Nat → Nat
  | 0 => 0
  | k + 1 => cdO isC d k + @ite Nat (isC k ∧ d.testBit k = false) (Classical.propDecidable _) 1 0
theorem tb_or (d s k : Nat) : (d ||| 2 ^ s).testBit k = (d.testBit k || decide (s = k)) := by
  rw [Nat.testBit_or, Nat.testBit_two_pow]
theorem bf_mono {x : Int32} {d s : Nat} (h : x &&& (nI d ^^^ (-1)) = 0) : x &&& (nI (d ||| 2 ^ s) ^^^ (-1)) = 0 := by
  have e : ∀ a : Int32, a ^^^ (-1) = ~~~a := fun a => by
    apply Int32.toBitVec_inj.mp
    rw [Int32.toBitVec_xor, Int32.toBitVec_not]
    rw [show (-1 : Int32).toBitVec = BitVec.allOnes 32 from by decide]
    exact BitVec.xor_allOnes
  rw [e] at h ⊢
  rw [← n_or]
  apply Int32.toBitVec_inj.mp
  have h := congrArg Int32.toBitVec h
  rw [Int32.toBitVec_and, Int32.toBitVec_not] at h ⊢
  rw [Int32.toBitVec_or]
  apply BitVec.eq_of_getLsbD_eq
  intro i hi
  have h := congrArg (fun v => v.getLsbD i) h
  simp only [BitVec.getLsbD_and, BitVec.getLsbD_not, BitVec.getLsbD_or] at h ⊢
  revert h
  cases x.toBitVec.getLsbD i <;> cases (nI d).toBitVec.getLsbD i <;> cases (nI (2 ^ s)).toBitVec.getLsbD i <;> simp
theorem can_mono {s t d : Nat} (h : canO isC BF s d) (hne : s ≠ t) : canO isC BF s (d ||| 2 ^ t) := by
  obtain ⟨h1, h2, h3⟩ := h
  refine ⟨h1, ?_, bf_mono h3⟩
  rw [tb_or, h2]
  simp [Ne.symm hne]
theorem cd_or {d s : Nat} (hs : isC s) (hd : d.testBit s = false) : ∀ k, cdO isC d k = cdO isC (d ||| 2 ^ s) k + (if s < k then 1 else 0)
  | 0 => rfl
  | k + 1 => by
    unfold cdO
    rw [cd_or hs hd k]
    by_cases e : s = k
    · subst e
      rw [if_pos (by omega : s < s + 1), if_neg (by omega : ¬ s < s), if_pos ⟨hs, hd⟩, if_neg (fun q => by rw [tb_or] at q; simp at q)]
    · have hk : (d ||| 2 ^ s).testBit k = d.testBit k := by rw [tb_or]; simp [e]
      rw [hk]
      generalize @ite Nat (isC k ∧ d.testBit k = false) (Classical.propDecidable _) 1 0 = g
      by_cases hl : s < k
      · rw [if_pos hl, if_pos (show s < k + 1 by omega)]; omega
      · rw [if_neg hl, if_neg (show ¬ s < k + 1 by omega)]; omega
theorem cd_le {d : Nat} : ∀ {k j : Nat}, k ≤ j → cdO isC d k ≤ cdO isC d j
  | k, 0, h => by rw [show k = 0 by omega]; exact Nat.le_refl _
  | k, j + 1, h => by
    by_cases e : k = j + 1
    · rw [e]; exact Nat.le_refl _
    · exact Nat.le_trans (cd_le (d := d) (show k ≤ j by omega)) (Nat.le_add_right _ _)
/-- a call without meaning can as well come now -/
theorem exch : ∀ (n d : Nat) (y : Z) (s : Nat), cdO isC d 9 = n + 1 → s < 9 → canO isC BF s d → (∀ y, sv s y = (true, y)) → CmpO isC BF sv (n + 1) d y → CmpO isC BF sv n (d ||| 2 ^ s) y := by
  intro n
  induction n with
  | zero => intro d y s _ _ _ _ _; trivial
  | succ n ih =>
    intro d y s hr hs hc hm hC
    obtain ⟨t, ht, ht1, ht2, ht3⟩ := hC
    by_cases e : t = s
    · subst e
      rw [hm y] at ht3
      exact ht3
    · have h1 := cd_or ht1.1 ht1.2.1 9
      rw [if_pos ht, hr] at h1
      have h2 := ih (d ||| 2 ^ t) (sv t y).2 s (by omega) hs (can_mono hc (Ne.symm e)) hm ht3
      refine ⟨t, ht, can_mono ht1 e, ht2, ?_⟩
      rw [Nat.or_assoc, Nat.or_comm (2 ^ s), ← Nat.or_assoc]
      exact h2
end ORD
