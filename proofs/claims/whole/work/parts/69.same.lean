/-! BOTH JUDGES ANSWER THE SAME -/
section SAM
variable {b m k n : Nat} {μ ν : zM} {c s : Nat → Int32} {l : List Nat}
theorem CmpO_congr {isC isC' : Nat → Prop} {BF BF' : Nat → Int32} {sv sv' : Nat → zY → Bool × zY} (h1 : ∀ k, k < 9 → (isC k ↔ isC' k)) (h2 : ∀ k, k < 9 → BF k = BF' k) (h3 : ∀ k, k < 9 → isC k → ∀ y, sv k y = sv' k y) : ∀ (n d : Nat) (y : zY), CmpO isC BF sv n d y ↔ CmpO isC' BF' sv' n d y
  | 0, _, _ => Iff.rfl
  | n + 1, d, y => by
    have e : ∀ t, t < 9 → (canO isC BF t d ↔ canO isC' BF' t d) := fun t ht => by
      unfold canO
      rw [h1 t ht, h2 t ht]
    constructor
    · rintro ⟨t, ht, hc, hv, h⟩
      rw [h3 t ht hc.1] at hv h
      exact ⟨t, ht, (e t ht).1 hc, hv, (CmpO_congr h1 h2 h3 n _ _).1 h⟩
    · rintro ⟨t, ht, hc, hv, h⟩
      have hc' := (e t ht).2 hc
      rw [← h3 t ht hc'.1] at hv h
      exact ⟨t, ht, hc', hv, (CmpO_congr h1 h2 h3 n _ _).2 h⟩
theorem FolO_congr {sv sv' : Nat → zY → Bool × zY} : ∀ (l : List Nat) (n : Nat) (y : zY), (∀ k ∈ l, ∀ y, sv k y = sv' k y) → (FolO sv l n y ↔ FolO sv' l n y)
  | _, 0, _, _ => by unfold FolO; exact Iff.rfl
  | [], n + 1, _, _ => Iff.rfl
  | a :: l, n + 1, y, h => by
    show ((sv a y).1 = true ∧ FolO sv l n (sv a y).2) ↔ ((sv' a y).1 = true ∧ FolO sv' l n (sv' a y).2)
    rw [h a (List.mem_cons_self), FolO_congr l n _ (fun k hk => h k (List.mem_cons_of_mem _ hk))]
theorem R_err {z : Bool} {ok : Nat → Prop} {N : Nat → Nat} (R : Rel z ok N false c s) : errS c ↔ fndM s := by
  have h : ∀ t, t < 3 → (¬ c (58 + 18 * t) = 0 ↔ (0 : Int32) < s (27 + 18 * t + 3)) := fun t ht => by
    have r := R (27 + 18 * t + 3) (by omega)
    unfold rl at r
    rw [if_neg (by omega), if_neg (by omega), if_pos (by omega), show (27 + 18 * t + 3 - 27) % 18 = 3 by omega] at r
    unfold rlT at r
    rw [if_neg (by decide), if_neg (by decide), if_neg (by decide), if_pos rfl] at r
    have e : pos false (27 + 18 * t + 3) = 58 + 18 * t := by
      unfold pos offC
      rw [if_neg (by omega), if_pos (by omega), if_neg (by simp), show (27 + 18 * t + 3 - 27) % 18 = 3 by omega, show (27 + 18 * t + 3 - 27) / 18 = t by omega]
      simp
      omega
    rw [e] at r
    obtain ⟨k, hk, e1, e2⟩ := r
    rw [e1, e2, show (0 : Int32) = nI 0 from rfl, n_eq (by omega) (by omega), n_lt (by omega) (by omega)]
    omega
  constructor
  · rintro ⟨t, ht, h1⟩
    exact ⟨t, ht, (h t ht).1 h1⟩
  · rintro ⟨t, ht, h1⟩
    exact ⟨t, ht, (h t ht).2 h1⟩
theorem R_bf {z : Bool} {ok : Nat → Prop} {N : Nat → Nat} (R : Rel z ok N false c s) (hk : k < 9) : c (37 + k) = BFA s k := by
  have r := R (81 + 2 * k) (by omega)
  unfold rl at r
  rw [if_neg (by omega), if_neg (by omega), if_neg (by omega), if_pos (by omega), if_pos (by omega)] at r
  have e : pos false (81 + 2 * k) = 37 + k := by
    unfold pos
    rw [if_neg (by omega), if_neg (by omega), if_pos (by omega), if_pos (by omega)]
    omega
  rw [e] at r
  exact r
theorem R_an {z : Bool} {ok : Nat → Prop} {N : Nat → Nat} (R : Rel z ok N false c s) (hk : k < 9) : relA (c (28 + k)) (s (81 + 2 * k + 1)) := by
  have r := R (81 + 2 * k + 1) (by omega)
  unfold rl at r
  rw [if_neg (by omega), if_neg (by omega), if_neg (by omega), if_pos (by omega), if_neg (by omega)] at r
  have e : pos false (81 + 2 * k + 1) = 28 + k := by
    unfold pos
    rw [if_neg (by omega), if_neg (by omega), if_pos (by omega), if_neg (by omega)]
    omega
  rw [e] at r
  exact r
theorem an_over {x y : Int32} (h : relA x y) (hy : ¬ y = nI 0) : y - nI 1000 = x := by
  rcases h with ⟨-, h⟩ | ⟨j, hj, h1, h2⟩
  · exact absurd h hy
  · rw [h1, h2]
    apply Int32.toBitVec_inj.mp
    unfold nI
    simp only [Int32.toBitVec_sub]
    have : (Int32.ofNat (j + 900)).toBitVec = (Int32.ofNat j).toBitVec + (Int32.ofNat 900).toBitVec := by
      rw [← Int32.toBitVec_add, ← Int32.ofNat_add]
    rw [this]
    have h9 : (Int32.ofNat 1000).toBitVec = (Int32.ofNat 900).toBitVec + (Int32.ofNat 100).toBitVec := by decide
    rw [h9]
    generalize (Int32.ofNat j).toBitVec = a
    generalize (Int32.ofNat 900).toBitVec = p
    generalize (Int32.ofNat 100).toBitVec = q
    rw [BitVec.sub_eq_add_neg, BitVec.neg_add, BitVec.sub_eq_add_neg, BitVec.sub_eq_add_neg]
    rw [BitVec.add_assoc, ← BitVec.add_assoc p, BitVec.add_right_neg]
    simp
end SAM
