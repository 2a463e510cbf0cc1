/-! VALUES: a value by its number k (0 nothing, 1 to 398 numbers, 399 to 410 nodes), with a count q -/
def vC (k : Nat) : Int32 := if k = 0 then nI 0 else if k < 399 then Int32.ofInt ((((k - 1) / 2 : Nat) : Int) * 8 - 790 + (((k - 1) % 2 : Nat) : Int)) else nI (8 * ((k - 399) / 2) + 4 + (k - 399) % 2)
def vM (k : Nat) : Int32 := if k = 0 then nI 0 else if k < 399 then nI (1 + 4 * ((k - 1) / 2) + 1024 * ((k - 1) % 2)) else nI (2 + 4 * ((k - 399) / 2) + 1024 * ((k - 399) % 2))
def xC (k q : Nat) : Int32 := vC k <<< (nI 2 &&& 31) ||| nI q
def xM (k q : Nat) : Int32 := vM k ||| nI q <<< (nI 11 &&& 31)
def bC (k w : Nat) : Int32 := vC k <<< (nI 5 &&& 31) ||| nI w
def bM (k w : Nat) : Int32 := nI w <<< (nI 16 &&& 31) ||| vM k
def kd (k : Nat) : Nat := if k = 0 then 0 else if k < 399 then 1 else 2
def am (k : Nat) : Int32 := if k = 0 then nI 0 else if k < 399 then Int32.ofInt ((((k - 1) / 2 : Nat) : Int) - 99) else nI ((k - 399) / 2)
def mr (k : Nat) : Nat := if k = 0 then 0 else if k < 399 then (k - 1) % 2 else (k - 399) % 2
def dC (v : Int32) : Nat := if v = 0 then 0 else if v &&& 6 = 2 then ((v.toInt + 790).toNat / 8) * 2 + (v &&& 1).toInt.toNat + 1 else (v.toInt.toNat / 8) * 2 + (v &&& 1).toInt.toNat + 399
/-- the value with another mark -/
def mrk (k m : Nat) : Nat := if k = 0 then 0 else if k < 399 then (k - 1) / 2 * 2 + m + 1 else (k - 399) / 2 * 2 + m + 399
theorem fa1 {p : Nat → Prop} {n : Nat} (h : ∀ k : Fin n, p k) : ∀ k, k < n → p k := fun k hk => h ⟨k, hk⟩
theorem fa2 {p : Nat → Nat → Prop} {n m : Nat} (h : ∀ k : Fin n, ∀ q : Fin m, p k q) : ∀ k q, k < n → q < m → p k q := fun k q hk hq => h ⟨k, hk⟩ ⟨q, hq⟩
theorem x_dC : ∀ k, k < 411 → dC (vC k) = k := fa1 (by decide +kernel)
theorem x_dM : ∀ k, k < 411 → dC (vM k ^^^ vM k ^^^ vC k) = k := fa1 (by decide +kernel)
theorem x_sh2 : ∀ k q, k < 411 → q < 4 → xC k q >>> (nI 2 &&& 31) = vC k := fa2 (by decide +kernel)
theorem x_cnt : ∀ k q, k < 411 → q < 4 → xC k q &&& nI 3 = nI q := fa2 (by decide +kernel)
theorem x_kind : ∀ k q, k < 411 → q < 4 → xC k q >>> (nI 3 &&& 31) &&& nI 3 = nI (kd k) := fa2 (by decide +kernel)
theorem x_am : ∀ k q, k < 411 → q < 4 → xC k q >>> (nI 5 &&& 31) = am k := fa2 (by decide +kernel)
theorem x_mr : ∀ k q, k < 411 → q < 4 → xC k q >>> (nI 2 &&& 31) &&& nI 1 = nI (mr k) := fa2 (by decide +kernel)
theorem x_m0 : ∀ k q, k < 411 → q < 4 → 0 < k → xC k q &&& (-5) ||| nI 0 <<< (nI 2 &&& 31) = xC (mrk k 0) q := fa2 (by decide +kernel)
theorem x_m1 : ∀ k q, k < 411 → q < 4 → 0 < k → xC k q &&& (-5) ||| nI 1 <<< (nI 2 &&& 31) = xC (mrk k 1) q := fa2 (by decide +kernel)
theorem y_val : ∀ k q, k < 411 → q < 4 → xM k q &&& nI 2047 = vM k := fa2 (by decide +kernel)
theorem y_cnt : ∀ k q, k < 411 → q < 4 → xM k q >>> (nI 11 &&& 31) &&& nI 3 = nI q := fa2 (by decide +kernel)
theorem y_kind : ∀ k q, k < 411 → q < 4 → xM k q &&& nI 3 = nI (kd k) := fa2 (by decide +kernel)
theorem y_num : ∀ k q, k < 411 → q < 4 → kd k = 1 → (xM k q >>> (nI 2 &&& 31) &&& nI 255) - nI 99 = am k := fa2 (by decide +kernel)
theorem y_node : ∀ k q, k < 411 → q < 4 → kd k = 2 → xM k q >>> (nI 2 &&& 31) &&& nI 255 = am k := fa2 (by decide +kernel)
theorem y_mr : ∀ k q, k < 411 → q < 4 → xM k q >>> (nI 10 &&& 31) &&& nI 1 = nI (mr k) := fa2 (by decide +kernel)
theorem y_m0 : ∀ k q, k < 411 → q < 4 → 0 < k → xM k q &&& (nI 1024 ^^^ (-1)) ||| nI 0 <<< (nI 10 &&& 31) = xM (mrk k 0) q := fa2 (by decide +kernel)
theorem y_m1 : ∀ k q, k < 411 → q < 4 → 0 < k → xM k q &&& (nI 1024 ^^^ (-1)) ||| nI 1 <<< (nI 10 &&& 31) = xM (mrk k 1) q := fa2 (by decide +kernel)
theorem z_val : ∀ k w, k < 411 → w < 20 → bC k w >>> (nI 5 &&& 31) = vC k := fa2 (by decide +kernel)
theorem z_word : ∀ k w, k < 411 → w < 20 → bC k w &&& nI 31 = nI w := fa2 (by decide +kernel)
theorem z_valM : ∀ k w, k < 411 → w < 20 → bM k w &&& nI 2047 = vM k := fa2 (by decide +kernel)
theorem z_wordM : ∀ k w, k < 411 → w < 20 → bM k w >>> (nI 16 &&& 31) = nI w := fa2 (by decide +kernel)
theorem vM_or : ∀ k, k < 411 → vM k &&& nI 2047 = vM k := fa1 (by decide +kernel)
theorem mrk_lt {k m : Nat} (hk : k < 411) (hm : m < 2) : mrk k m < 411 := by unfold mrk; split <;> (try split) <;> omega
