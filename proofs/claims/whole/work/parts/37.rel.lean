/-! THE TWO ROWS: the class's row c of 118, the model's row s of 100; sg: start calls are being done (then the model's thread 0 is the class's thread 3) -/
def offC (o : Nat) : Nat := if o = 0 then 10 else if o = 1 then 11 else if o = 2 then 9 else if o = 3 then 12 else if o = 4 then 8 else if o = 5 then 6 else if o = 6 then 7 else if o = 7 then 13 else if o < 12 then o + 6 else o - 12
def pos (sg : Bool) (i : Nat) : Nat := if i < 27 then i else if i < 81 then (if sg = true ∧ i < 45 then 100 else 46 + 18 * ((i - 27) / 18)) + offC ((i - 27) % 18) else if i < 99 then (if (i - 81) % 2 = 0 then 37 + (i - 81) / 2 else 28 + (i - 81) / 2) else 27
theorem pos_inj0 : ∀ i j, i < 100 → j < 100 → pos false i = pos false j → i = j := fa2 (by decide +kernel)
theorem pos_inj1 : ∀ i j, i < 100 → j < 100 → pos true i = pos true j → i = j := fa2 (by decide +kernel)
theorem pos_inj {sg : Bool} {i j : Nat} (hi : i < 100) (hj : j < 100) (h : pos sg i = pos sg j) : i = j := by
  cases sg with
  | false => exact pos_inj0 i j hi hj h
  | true => exact pos_inj1 i j hi hj h
def relX (z : Bool) (x y : Int32) : Prop := ∃ k q, k < 411 ∧ q < 4 ∧ (z = true → q = 0) ∧ x = xC k q ∧ y = xM k q
def relB (x y : Int32) : Prop := ∃ k w, k < 411 ∧ w < 20 ∧ x = bC k w ∧ y = bM k w
def relA (x y : Int32) : Prop := (x = nI 0 ∧ y = nI 0) ∨ ∃ j, j < 201 ∧ x = nI j - nI 100 ∧ y = nI (j + 900)
def relN (n : Nat) (x y : Int32) : Prop := ∃ k, k ≤ n ∧ x = nI k ∧ y = nI k
def relO (ok : Nat → Prop) (x y : Int32) : Prop := ∃ l : List Nat, l.Nodup ∧ (∀ s ∈ l, s < 9 ∧ ok s) ∧ l.length ≤ 6 ∧ x = nI (encO l) ∧ y = nI (encO l)
def rlT (z : Bool) (n o : Nat) (x y : Int32) : Prop := if o = 0 then relN n x y else if o = 1 then relN 1 x y else if o = 2 then relN 40 x y else if o = 3 then relN 6 x y else if o < 7 then x = y else if o = 7 then relN 4 x y else if o < 12 then relB x y else relX z x y
def rl (z : Bool) (ok : Nat → Prop) (N : Nat → Nat) (i : Nat) (x y : Int32) : Prop := if i < 20 then relX z x y else if i < 27 then x = y else if i < 81 then rlT z (N ((i - 27) / 18)) ((i - 27) % 18) x y else if i < 99 then (if (i - 81) % 2 = 0 then x = y else relA x y) else relO ok x y
def Rel (z : Bool) (ok : Nat → Prop) (N : Nat → Nat) (sg : Bool) (c s : Nat → Int32) : Prop := ∀ i, i < 100 → rl z ok N i (c (pos sg i)) (s i)
def Th (sg : Bool) (t bc : Nat) : Prop := (sg = true ∧ t = 0 ∧ bc = 100) ∨ (sg = false ∧ t < 3 ∧ bc = 46 + 18 * t)
section REL
variable {z : Bool} {ok : Nat → Prop} {N : Nat → Nat} {sg : Bool} {c s : Nat → Int32} {t bc : Nat}
theorem Th.t3 (h : Th sg t bc) : t < 3 := by rcases h with h | h <;> omega
theorem Th.hi (h : Th sg t bc) : bc ≤ 100 := by rcases h with h | h <;> omega
theorem Th.lo (h : Th sg t bc) : 46 ≤ bc := by rcases h with h | h <;> omega
theorem pos_th (h : Th sg t bc) {o : Nat} (ho : o < 18) : pos sg (27 + 18 * t + o) = bc + offC o := by
  unfold pos
  rw [if_neg (by omega), if_pos (by have := h.t3; omega), show 27 + 18 * t + o - 27 = 18 * t + o by omega, show (18 * t + o) % 18 = o by omega, show (18 * t + o) / 18 = t by omega]
  rcases h with ⟨rfl, rfl, rfl⟩ | ⟨rfl, h2, rfl⟩
  · rw [if_pos ⟨rfl, by omega⟩]
  · rw [if_neg (by simp)]
theorem Rel.up0 (h : Rel z ok N sg c s) {i : Nat} (hi : i < 100) {x y : Int32} (hr : rl z ok N i x y) : Rel z ok N sg (upd c (pos sg i) x) (upd s i y) := by
  intro j hj
  by_cases e : j = i
  · subst e
    rw [u_eq, u_eq]; exact hr
  · rw [u_ne e, u_ne (fun q => e (pos_inj hj hi q))]
    exact h j hj
/-- what only the class's row has beside may change -/
theorem Rel.out (h : Rel z ok N sg c s) {c' : Nat → Int32} (hc : ∀ i, i < 100 → c' (pos sg i) = c (pos sg i)) : Rel z ok N sg c' s := fun i hi => by
  rw [hc i hi]; exact h i hi
theorem Rel.eqv (h : Rel z ok N sg c s) {c' s' : Nat → Int32} (hc : ∀ i, i < 100 → c' (pos sg i) = c (pos sg i)) (hs : ∀ i, i < 100 → s' i = s i) : Rel z ok N sg c' s' := fun i hi => by
  rw [hc i hi, hs i hi]; exact h i hi
theorem rl_th {i o : Nat} (ht : t < 3) (ho : o < 18) (hi : i = 27 + 18 * t + o) {x y : Int32} : rl z ok N i x y = rlT z (N t) o x y := by
  unfold rl
  rw [if_neg (by omega), if_neg (by omega), if_pos (by omega), show (i - 27) / 18 = t by omega, show (i - 27) % 18 = o by omega]
theorem Rel.th (h : Rel z ok N sg c s) (hT : Th sg t bc) {o : Nat} (ho : o < 18) : rlT z (N t) o (c (bc + offC o)) (s (27 + 18 * t + o)) := by
  have := h (27 + 18 * t + o) (by have := hT.t3; omega)
  rw [pos_th hT ho, rl_th hT.t3 ho rfl] at this
  exact this
theorem Rel.updT (h : Rel z ok N sg c s) (hT : Th sg t bc) {o : Nat} (ho : o < 18) {jc jm : Nat} {x y : Int32} (hr : rlT z (N t) o x y) (hc : jc = bc + offC o) (hm : jm = 27 + 18 * t + o) : Rel z ok N sg (upd c jc x) (upd s jm y) := by
  subst hc hm
  rw [← pos_th hT ho]
  refine h.up0 (by have := hT.t3; omega) ?_
  rw [rl_th hT.t3 ho rfl]
  exact hr
theorem Rel.word (h : Rel z ok N sg c s) {w : Nat} (hw : w < 20) : relX z (c w) (s w) := by
  have := h w (by omega)
  unfold rl at this
  rw [if_pos hw, show pos sg w = w by unfold pos; rw [if_pos (by omega)]] at this
  exact this
theorem Rel.updW (h : Rel z ok N sg c s) {w : Nat} (hw : w < 20) {x y : Int32} (hr : relX z x y) : Rel z ok N sg (upd c w x) (upd s w y) := by
  have := h.up0 (i := w) (by omega) (x := x) (y := y) (by unfold rl; rw [if_pos hw]; exact hr)
  rw [show pos sg w = w by unfold pos; rw [if_pos (by omega)]] at this
  exact this
theorem Rel.node (h : Rel z ok N sg c s) {k : Nat} (hk : k < 7) : c (20 + k) = s (20 + k) := by
  have := h (20 + k) (by omega)
  unfold rl at this
  rw [if_neg (by omega), if_pos (by omega), show pos sg (20 + k) = 20 + k by unfold pos; rw [if_pos (by omega)]] at this
  exact this
theorem Rel.updN (h : Rel z ok N sg c s) {k : Nat} (h1 : 20 ≤ k) (h2 : k < 27) {x : Int32} : Rel z ok N sg (upd c k x) (upd s k x) := by
  have := h.up0 (i := k) (by omega) (x := x) (y := x) (by unfold rl; rw [if_neg (by omega), if_pos h2])
  rw [show pos sg k = k by unfold pos; rw [if_pos (by omega)]] at this
  exact this
def dM (v : Int32) : Nat := if v = 0 then 0 else if v &&& 3 = 1 then ((v.toInt.toNat % 1024) / 4) * 2 + v.toInt.toNat / 1024 + 1 else ((v.toInt.toNat % 1024) / 4) * 2 + v.toInt.toNat / 1024 + 399
theorem x_dMM : ∀ k, k < 411 → dM (vM k) = k := fa1 (by decide +kernel)
theorem vM_inj {k k' : Nat} (hk : k < 411) (hk' : k' < 411) (h : vM k = vM k') : k = k' := by rw [← x_dMM k hk, h, x_dMM k' hk']
theorem vC_inj {k k' : Nat} (hk : k < 411) (hk' : k' < 411) (h : vC k = vC k') : k = k' := by rw [← x_dC k hk, h, x_dC k' hk']
theorem kd3 (k : Nat) : kd k < 3 := by unfold kd; split <;> (try split) <;> omega
def ndN (k : Nat) : Nat := (k - 399) / 2
theorem ndN6 {k : Nat} (hk : k < 411) : ndN k < 6 := by unfold ndN; omega
theorem am_nd {k : Nat} (h : kd k = 2) : am k = nI (ndN k) := by
  unfold kd at h
  unfold am ndN
  split at h
  · omega
  · split at h
    · omega
    · rename_i h1 h2
      rw [if_neg h1, if_neg h2]
theorem am_0 {k : Nat} (h : kd k = 0) : am k = nI 0 := by
  unfold kd at h
  unfold am
  split at h
  · rename_i h1; rw [if_pos h1]
  · split at h <;> omega
theorem kd_0 {k : Nat} (h : kd k = 0) : k = 0 := by
  unfold kd at h
  split at h
  · assumption
  · split at h <;> omega
/-! numbers, kept in range -/
theorem clM_eq (n : Int32) : zmax (-99) (zmin (nI 99) n) = clM n := by
  have h99 : (nI 99).toInt = 99 := rfl
  have hm : (-99 : Int32).toInt = -99 := rfl
  unfold clM zmax zmin
  simp only [Int32.lt_iff_toInt_lt, h99, hm]
  by_cases h1 : n.toInt < 99
  · rw [if_pos h1]
    by_cases h2 : -99 < n.toInt
    · rw [if_pos h2, if_neg (by omega), if_neg (by omega)]
    · rw [if_neg h2, if_neg (by omega)]
      by_cases h3 : n.toInt < -99
      · rw [if_pos h3]
      · rw [if_neg h3]
        exact Int32.toInt_inj.mp (by rw [hm]; omega)
  · rw [if_neg h1, h99, if_pos (by omega)]
    by_cases h2 : 99 < n.toInt
    · rw [if_pos h2]
    · rw [if_neg h2, if_neg (by omega)]
      exact Int32.toInt_inj.mp (by rw [h99]; omega)
theorem clM_j (n : Int32) : ∃ j : Nat, j < 199 ∧ clM n = Int32.ofInt ((j : Int) - 99) := by
  have h99 : (nI 99).toInt = 99 := rfl
  have hm : (-99 : Int32).toInt = -99 := rfl
  unfold clM
  simp only [Int32.lt_iff_toInt_lt, h99, hm]
  by_cases h1 : 99 < n.toInt
  · rw [if_pos h1]; exact ⟨198, by omega, rfl⟩
  · rw [if_neg h1]
    by_cases h2 : n.toInt < -99
    · rw [if_pos h2]; exact ⟨0, by omega, rfl⟩
    · rw [if_neg h2]
      refine ⟨(n.toInt + 99).toNat, by omega, ?_⟩
      rw [show ((n.toInt + 99).toNat : Int) - 99 = n.toInt by omega]
      exact (Int32.ofInt_toInt n).symm
theorem xN_c : ∀ j : Nat, j < 199 → Int32.ofInt ((j : Int) - 99) <<< (nI 5 &&& 31) ||| nI 8 = xC (1 + 2 * j) 0 := fa1 (by decide +kernel)
theorem xN_m : ∀ j : Nat, j < 199 → nI 1 ||| (Int32.ofInt ((j : Int) - 99) + nI 99) <<< (nI 2 &&& 31) = xM (1 + 2 * j) 0 := fa1 (by decide +kernel)
theorem oN_x (n : Int32) : ∃ j : Nat, j < 199 ∧ oN n = xC (1 + 2 * j) 0 ∧ asN n = xM (1 + 2 * j) 0 := by
  obtain ⟨j, hj, e⟩ := clM_j n
  refine ⟨j, hj, ?_, ?_⟩
  · unfold oN
    rw [clM_eq, e]
    exact xN_c j hj
  · unfold asN
    rw [e]
    exact xN_m j hj
theorem relX_N (z : Bool) (n : Int32) : relX z (oN n) (asN n) := by
  obtain ⟨j, hj, e1, e2⟩ := oN_x n
  exact ⟨1 + 2 * j, 0, by omega, by omega, fun _ => rfl, e1, e2⟩
theorem oN_1 : oN (nI 1) >>> (nI 5 &&& 31) = nI 1 := by decide +kernel
theorem oN_0 : oN (nI 0) >>> (nI 5 &&& 31) = nI 0 := by decide +kernel
theorem x0C : xC 0 0 = nI 0 := by decide +kernel
theorem x0M : xM 0 0 = nI 0 := by decide +kernel
theorem b0C : bC 0 0 = nI 0 := by decide +kernel
theorem b0M : bM 0 0 = nI 0 := by decide +kernel
theorem relX_0 (z : Bool) : relX z (nI 0) (nI 0) := ⟨0, 0, by omega, by omega, fun _ => rfl, x0C.symm, x0M.symm⟩
theorem relB_0 : relB (nI 0) (nI 0) := ⟨0, 0, by omega, by omega, b0C.symm, b0M.symm⟩
theorem xnC : ∀ k, k < 6 → nI k <<< (nI 5 &&& 31) ||| nI 16 = xC (399 + 2 * k) 0 := fa1 (by decide +kernel)
theorem xnM : ∀ k, k < 6 → nI 2 ||| nI k <<< (nI 2 &&& 31) = xM (399 + 2 * k) 0 := fa1 (by decide +kernel)
/-! a store, on both sides -/
theorem cnt_next : ∀ q, q < 4 → nI q + nI 1 &&& nI 3 = nI ((q + 1) % 4) := fa1 (by decide +kernel)
theorem relX_store {mn : Int32} (hz : z = false ∨ ¬ mn = nI 2) (h : Rel z ok N sg c s) {w k : Nat} (hw : w < 20) (hk : k < 411) {v : Int32} (hv : v &&& nI 2047 = vM k) : Rel z ok N sg (cSt mn c w (vC k)) (mBe mn s w v) := by
  obtain ⟨k0, q0, hk0, hq0, hz0, e1, e2⟩ := h.word hw
  unfold cSt mBe
  rw [e1, e2, x_cnt k0 q0 hk0 hq0, y_cnt k0 q0 hk0 hq0, cnt_next q0 hq0, hv]
  refine h.updW hw ?_
  by_cases hm : mn = nI 2
  · rw [if_pos hm]
    have hzf : z = false := hz.resolve_right (fun q => q hm)
    exact ⟨k, (q0 + 1) % 4, hk, by omega, (fun q => by rw [hzf] at q; cases q), rfl, rfl⟩
  · rw [if_neg hm]
    exact ⟨k, q0, hk, hq0, hz0, rfl, rfl⟩
end REL
