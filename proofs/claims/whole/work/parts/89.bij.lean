/-! EXPLORATIONS: a state's two rows tell each other -/
section BIJ
variable {b m k n i : Nat} {μ ν : zM} {c s c' s' : Nat → Int32} {z : Bool} {ok : Nat → Prop} {N : Nat → Nat} {x y x' y' : Int32}
theorem xC_ij {k q k' q' : Nat} (h1 : k < 411) (h2 : q < 4) (h3 : k' < 411) (h4 : q' < 4) (e : xC k q = xC k' q') : k = k' ∧ q = q' := by
  have a := x_sh2 k q h1 h2
  rw [e, x_sh2 k' q' h3 h4] at a
  have b := x_cnt k q h1 h2
  rw [e, x_cnt k' q' h3 h4] at b
  exact ⟨(vC_inj h3 h1 a).symm, ((n_eq (by omega) (by omega)).mp b).symm⟩
theorem xM_ij {k q k' q' : Nat} (h1 : k < 411) (h2 : q < 4) (h3 : k' < 411) (h4 : q' < 4) (e : xM k q = xM k' q') : k = k' ∧ q = q' := by
  have a := y_val k q h1 h2
  rw [e, y_val k' q' h3 h4] at a
  have b := y_cnt k q h1 h2
  rw [e, y_cnt k' q' h3 h4] at b
  exact ⟨(vM_inj h3 h1 a).symm, ((n_eq (by omega) (by omega)).mp b).symm⟩
theorem bC_ij {k w k' w' : Nat} (h1 : k < 411) (h2 : w < 20) (h3 : k' < 411) (h4 : w' < 20) (e : bC k w = bC k' w') : k = k' ∧ w = w' := by
  have a := z_val k w h1 h2
  rw [e, z_val k' w' h3 h4] at a
  have b := z_word k w h1 h2
  rw [e, z_word k' w' h3 h4] at b
  exact ⟨(vC_inj h3 h1 a).symm, ((n_eq (by omega) (by omega)).mp b).symm⟩
theorem bM_ij {k w k' w' : Nat} (h1 : k < 411) (h2 : w < 20) (h3 : k' < 411) (h4 : w' < 20) (e : bM k w = bM k' w') : k = k' ∧ w = w' := by
  have a := z_valM k w h1 h2
  rw [e, z_valM k' w' h3 h4] at a
  have b := z_wordM k w h1 h2
  rw [e, z_wordM k' w' h3 h4] at b
  exact ⟨(vM_inj h3 h1 a).symm, ((n_eq (by omega) (by omega)).mp b).symm⟩
theorem relX_CM (h : relX z x y) (h' : relX z x' y') : x = x' ↔ y = y' := by
  obtain ⟨k, q, h1, h2, -, rfl, rfl⟩ := h
  obtain ⟨k', q', h3, h4, -, rfl, rfl⟩ := h'
  constructor
  · intro e
    obtain ⟨rfl, rfl⟩ := xC_ij h1 h2 h3 h4 e
    rfl
  · intro e
    obtain ⟨rfl, rfl⟩ := xM_ij h1 h2 h3 h4 e
    rfl
theorem relB_CM (h : relB x y) (h' : relB x' y') : x = x' ↔ y = y' := by
  obtain ⟨k, q, h1, h2, rfl, rfl⟩ := h
  obtain ⟨k', q', h3, h4, rfl, rfl⟩ := h'
  constructor
  · intro e
    obtain ⟨rfl, rfl⟩ := bC_ij h1 h2 h3 h4 e
    rfl
  · intro e
    obtain ⟨rfl, rfl⟩ := bM_ij h1 h2 h3 h4 e
    rfl
theorem relN_e {n : Nat} (h : relN n x y) : x = y := by
  obtain ⟨k, -, rfl, rfl⟩ := h; rfl
theorem relO_e (h : relO ok x y) : x = y := by
  obtain ⟨l, -, -, -, rfl, rfl⟩ := h; rfl
theorem relA_0 (h : relA x y) (e : y = nI 0) : x = nI 0 := by
  rcases h with h | ⟨j, hj, -, h2⟩
  · exact h.1
  · rw [h2] at e
    have := (n_eq (by omega) (by omega)).mp e
    omega
theorem rl_CM (hA : ¬ (81 ≤ i ∧ i < 99 ∧ (i - 81) % 2 = 1)) {N' : Nat → Nat} (h : rl z ok N i x y) (h' : rl z ok N' i x' y') : x = x' ↔ y = y' := by
  unfold rl at h h'
  by_cases h1 : i < 20
  · rw [if_pos h1] at h h'
    exact relX_CM h h'
  · rw [if_neg h1] at h h'
    by_cases h2 : i < 27
    · rw [if_pos h2] at h h'
      rw [h, h']
    · rw [if_neg h2] at h h'
      by_cases h3 : i < 81
      · rw [if_pos h3] at h h'
        have o18 : (i - 27) % 18 < 18 := Nat.mod_lt _ (by omega)
        generalize (i - 27) % 18 = o at h h' o18
        unfold rlT at h h'
        by_cases g0 : o = 0
        · rw [if_pos g0] at h h'; rw [relN_e h, relN_e h']
        · rw [if_neg g0] at h h'
          by_cases g1 : o = 1
          · rw [if_pos g1] at h h'; rw [relN_e h, relN_e h']
          · rw [if_neg g1] at h h'
            by_cases g2 : o = 2
            · rw [if_pos g2] at h h'; rw [relN_e h, relN_e h']
            · rw [if_neg g2] at h h'
              by_cases g3 : o = 3
              · rw [if_pos g3] at h h'; rw [relN_e h, relN_e h']
              · rw [if_neg g3] at h h'
                by_cases g4 : o < 7
                · rw [if_pos g4] at h h'; rw [h, h']
                · rw [if_neg g4] at h h'
                  by_cases g5 : o = 7
                  · rw [if_pos g5] at h h'; rw [relN_e h, relN_e h']
                  · rw [if_neg g5] at h h'
                    by_cases g6 : o < 12
                    · rw [if_pos g6] at h h'; exact relB_CM h h'
                    · rw [if_neg g6] at h h'; exact relX_CM h h'
      · rw [if_neg h3] at h h'
        by_cases h4 : i < 99
        · rw [if_pos h4] at h h'
          rw [if_pos (by omega)] at h h'
          rw [h, h']
        · rw [if_neg h4] at h h'
          rw [relO_e h, relO_e h']
theorem pos_sur : ∀ j, j < 100 → ∃ i : Fin 100, pos false i = j := fa1 (by decide +kernel)
theorem row_CM (W : Wn μ b c s) (W' : Wn μ b c' s') : eq100 c c' ↔ eq100 s s' := by
  constructor
  · intro h i hi
    by_cases hA : 81 ≤ i ∧ i < 99 ∧ (i - 81) % 2 = 1
    · have hk : (i - 82) / 2 < 9 := by omega
      have ei : i = 81 + 2 * ((i - 82) / 2) + 1 := by omega
      have r := R_an W.1 hk
      have r' := R_an W'.1 hk
      rw [← ei] at r r'
      have ec : c (28 + (i - 82) / 2) = c' (28 + (i - 82) / 2) := h _ (by omega)
      have A := W.2.2.2 ((i - 82) / 2 / 3) ((i - 82) / 2 % 3) (by omega) (by omega)
      have A' := W'.2.2.2 ((i - 82) / 2 / 3) ((i - 82) / 2 % 3) (by omega) (by omega)
      rw [show 82 + 2 * (3 * ((i - 82) / 2 / 3) + (i - 82) / 2 % 3) = i by omega] at A A'
      rw [h (56 + 18 * ((i - 82) / 2 / 3)) (by omega), ← A'] at A
      by_cases hz : s i = nI 0
      · have : s' i = nI 0 := Classical.byContradiction fun q => A.mpr q hz
        rw [hz, this]
      · have hz' : ¬ s' i = nI 0 := A.mp hz
        have e1 := an_over r hz
        have e2 := an_over r' hz'
        rw [ec, ← e2] at e1
        have : s i - nI 1000 + nI 1000 = s' i - nI 1000 + nI 1000 := by rw [e1]
        rwa [Int32.sub_add_cancel, Int32.sub_add_cancel] at this
    · exact (rl_CM hA (W.1 i hi) (W'.1 i hi)).mp (h _ (pos_100 hi))
  · intro h j hj
    obtain ⟨⟨i, hi⟩, rfl⟩ := pos_sur j hj
    by_cases hA : 81 ≤ i ∧ i < 99 ∧ (i - 81) % 2 = 1
    · have hk : (i - 82) / 2 < 9 := by omega
      have ei : i = 81 + 2 * ((i - 82) / 2) + 1 := by omega
      have r := R_an W.1 hk
      have r' := R_an W'.1 hk
      have ep : pos false i = 28 + (i - 82) / 2 := by
        unfold pos
        rw [if_neg (by omega), if_neg (by omega), if_pos (by omega), if_neg (by omega)]
        omega
      rw [← ei, ← ep] at r r'
      have es := h i hi
      by_cases hz : s i = nI 0
      · have hz' : s' i = nI 0 := es ▸ hz
        show c (pos false i) = c' (pos false i)
        rw [relA_0 r hz, relA_0 r' hz']
      · have hz' : ¬ s' i = nI 0 := es ▸ hz
        show c (pos false i) = c' (pos false i)
        rw [← an_over r hz, ← an_over r' hz', es]
    · exact (rl_CM hA (W.1 i hi) (W'.1 i hi)).mpr (h i hi)
end BIJ
