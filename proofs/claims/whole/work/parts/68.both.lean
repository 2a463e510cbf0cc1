/-! BOTH JUDGES SEE THE SAME PROGRAM -/
section BOT
variable {b m k : Nat} {μ ν : zM} {c s : Nat → Int32}
theorem Ctx.pj (C : Ctx b m μ ν) (h : ¬ μ (b + 1) 8 = nI 0) : PJ μ (b + 1) := by
  obtain ⟨-, -, -, v3, v4, v5, -, -, k, k5, hk⟩ := C
  refine ⟨v3, v4, v5, k, ?_, k5, hk⟩
  rcases Nat.eq_zero_or_pos k with e | e
  · subst e; exact absurd hk h
  · exact e
theorem Ctx.pn (C : Ctx b m μ ν) (h : ¬ μ (b + 1) 8 = nI 0) : PN ν m := by
  have P := C.pj h
  obtain ⟨⟨-, -, -, r3, r4, r5, -, -, r8⟩, -⟩ := C
  obtain ⟨p1, ⟨n, hn, -, -, -, n3, -⟩, p3, k, k0, k5, hk⟩ := P
  refine ⟨fun r hr => ?_, ⟨n 3, n3, ?_⟩, fun i hi hi2 => ?_, k, k0, k5, ?_⟩
  · rw [r3 r hr]; exact p1 r hr
  · rw [show 915 = 912 + 3 from rfl, r4 3 (by omega)]; exact hn 3 (by omega)
  · by_cases e : i < 12
    · have := (r5 (i / 4) (i % 4) (by omega) (by rw [if_neg (by omega)]; omega)).1
      rw [show 916 + 4 * (i / 4) + i % 4 = 916 + i by omega] at this
      rw [this]
      exact p3 _ (by omega)
    · have := (r5 3 (i - 12) (by omega) (by rw [if_pos rfl]; omega)).1
      rw [show 916 + 4 * 3 + (i - 12) = 916 + i by omega] at this
      rw [this]
      exact p3 _ (by omega)
  · rw [r8]; exact hk
theorem Ctx.cts (C : Ctx b m μ ν) {t : Nat} (ht : t < 4) : ν (m + 2) (912 + t) = μ (b + 1 + 4) t := by
  obtain ⟨⟨-, -, -, -, r4, -⟩, -⟩ := C
  exact r4 t ht
theorem Ctx.pc (C : Ctx b m μ ν) : PC ν m := by
  obtain ⟨h, c0, c1, c2, -, c6⟩ := C.cnt
  have e : ∀ t, t < 3 → (ν (m + 2) (912 + t)).toInt.toNat = cN μ b t := fun t ht => by
    rw [(h t (by omega)).2]
    exact n_tn (by rcases (show t = 0 ∨ t = 1 ∨ t = 2 by omega) with rfl | rfl | rfl <;> omega)
  refine ⟨fun t ht => ⟨by rw [e t ht]; exact (h t (by omega)).2, by rw [e t ht]; rcases (show t = 0 ∨ t = 1 ∨ t = 2 by omega) with rfl | rfl | rfl <;> assumption⟩, ?_⟩
  unfold allN
  have e0 := e 0 (by omega)
  have e1 := e 1 (by omega)
  have e2 := e 2 (by omega)
  simp only [Nat.add_zero, Nat.reduceAdd] at e0 e1 e2
  rw [e0, e1, e2]
  exact c6
theorem Ctx.allE (C : Ctx b m μ ν) : allN ν m = allS μ (b + 1) := by
  unfold allN allS
  rw [show 912 = 912 + 0 from rfl, C.cts (t := 0) (by omega), show 913 = 912 + 1 from rfl, C.cts (t := 1) (by omega), show 914 = 912 + 2 from rfl, C.cts (t := 2) (by omega)]
theorem Ctx.isE (C : Ctx b m μ ν) (hk : k < 9) : isCN ν m k = isCS μ (b + 1) k := by
  unfold isCN isCS
  rw [C.cts (t := k / 3) (by omega)]
theorem Ctx.slE (C : Ctx b m μ ν) (hk : k < 9) : ν (m + 2) (916 + rwN k) = μ (b + 1 + 5) k ∧ ν (m + 2) (932 + rwN k) = μ (b + 1 + 6) k := by
  obtain ⟨⟨-, -, -, -, -, r5, -⟩, -⟩ := C
  have := r5 (k / 3) (k % 3) (by omega) (by rw [if_neg (by omega)]; omega)
  rw [show k / 3 * 3 + k % 3 = k by omega, Nat.add_assoc, Nat.add_assoc] at this
  exact this
theorem Ctx.sxE (C : Ctx b m μ ν) (hk : k < 4) : ν (m + 2) (916 + (12 + k)) = μ (b + 1 + 5) (9 + k) ∧ ν (m + 2) (944 + k) = μ (b + 1 + 6) (9 + k) := by
  obtain ⟨⟨-, -, -, -, -, r5, -⟩, -⟩ := C
  have := r5 3 k (by omega) (by rw [if_pos rfl]; exact hk)
  rw [show 916 + 4 * 3 + k = 916 + (12 + k) by omega, show 932 + 4 * 3 + k = 944 + k by omega] at this
  exact this
theorem Ctx.mnE (C : Ctx b m μ ν) {i r : Nat} (hr : r < 6) (e : ν (m + 2) (916 + i) = nI r) : mgN ν m i = (μ (b + 1 + 3) r).toInt.toNat := by
  obtain ⟨⟨-, -, -, r3, -⟩, -⟩ := C
  unfold mgN
  rw [e, n_tn (by omega), r3 r hr]
theorem Ctx.mgE (C : Ctx b m μ ν) {i : Nat} (hk : k < 13) (e : ν (m + 2) (916 + i) = μ (b + 1 + 5) k) : mgN ν m i = mgS μ (b + 1) k := by
  have C' := C
  obtain ⟨-, -, -, -, -, v5, -⟩ := C'
  obtain ⟨r, r6, hr⟩ := v5 k hk
  have hr : μ (b + 1 + 5) k = nI r := hr
  rw [C.mnE r6 (e.trans hr)]
  unfold mgS
  rw [hr, n_tn (by omega)]
theorem Ctx.mdE (C : Ctx b m μ ν) : ν (m + 2) 950 = μ (b + 1) 8 := by
  obtain ⟨⟨-, -, -, -, -, -, -, -, r8⟩, -⟩ := C
  exact r8
theorem Ctx.y0E (C : Ctx b m μ ν) : ∀ k, k ≤ 4 → y0N ν m k = y0S μ (b + 1) k
  | 0, _ => rfl
  | k + 1, h => by
    unfold y0N y0S
    have e := C.sxE (k := k) (by omega)
    rw [C.y0E k (by omega), C.mdE, C.mgE (by omega) e.1, e.2]
    rfl
theorem Ctx.svE (C : Ctx b m μ ν) (hk : k < 9) (ha : s (81 + 2 * k + 1) - nI 1000 = c (28 + k)) (y : zY) : svN ν m s k y = svS μ (b + 1) c k y := by
  unfold svN svS
  have e := C.slE hk
  rw [C.mdE, C.mgE (by omega) e.1, e.2, ha]
end BOT
