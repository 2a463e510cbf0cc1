theorem n_add (a b : Nat) : nI a + nI b = nI (a + b) := by simp [nI]
theorem n_mul (a b : Nat) : nI a * nI b = nI (a * b) := by simp [nI]
theorem n_toInt {a : Nat} (h : a < 2147483648) : (nI a).toInt = (a : Int) := by
  unfold nI
  rw [Int32.toInt_ofNat_of_lt (by omega)]
theorem n_sub {a b : Nat} (h : b ≤ a) : nI a - nI b = nI (a - b) := by
  unfold nI
  rw [Int32.ofNat_sub _ _ h]
theorem n_inj {a b : Nat} (ha : a < 2147483648) (hb : b < 2147483648) : (nI a = nI b) ↔ a = b := ⟨fun h => by
  have := congrArg Int32.toInt h
  rw [n_toInt ha, n_toInt hb] at this
  omega, fun h => by rw [h]⟩
theorem n_lt {a b : Nat} (ha : a < 2147483648) (hb : b < 2147483648) : (nI a < nI b) ↔ a < b := by
  rw [Int32.lt_iff_toInt_lt, n_toInt ha, n_toInt hb]
  omega
theorem n_le {a b : Nat} (ha : a < 2147483648) (hb : b < 2147483648) : (nI a ≤ nI b) ↔ a ≤ b := by
  rw [Int32.le_iff_toInt_le, n_toInt ha, n_toInt hb]
  omega
theorem n_zero : (0 : Int32) = nI 0 := rfl
theorem n_one : (1 : Int32) = nI 1 := rfl
theorem zA2_ap (f : Int32 → Int32 → zM → Option (Int32 × zM)) (a b : Int32) (μ : zM) : zA2 f [a, b] μ = f a b μ := rfl
theorem n_ix {k n : Nat} (hn : k < n) (h : n < 2147483648) : (0 ≤ (nI k).toInt ∧ (nI k).toInt < (n : Int)) := by
  rw [n_toInt (by omega)]
  omega
theorem n_tn {k : Nat} (h : k < 2147483648) : (nI k).toInt.toNat = k := by rw [n_toInt h]; rfl
def cSt (mn : Int32) (c : Nat → Int32) (w : Nat) (v : Int32) : Nat → Int32 := upd c w (v <<< (nI 2 &&& 31) ||| (if mn = nI 2 then (c w &&& nI 3) + nI 1 &&& nI 3 else c w &&& nI 3))
theorem e_store (b w : Nat) (v : Int32) (μ : zM) (hw : w < 118) : M_X5_store b [nI w, v] μ = some (0, zsa μ (b + 8) (cSt (μ (b + 1) 6) (μ (b + 8)) w v)) := by
  have h1 := n_ix hw (by omega)
  have h2 : (nI w).toInt.toNat = w := n_tn (by omega)
  unfold M_X5_store
  rw [zA2_ap]
  simp only [zfo0, B_X5_store, zsq, zse, zbin, zald, zl, zk, zif, zcmp, zfd, zas, zup, zenv, h1, h2, if_true, ite_true, reduceIte, zsk, and_self]
  by_cases hm : μ (b + 1) 6 = nI 2
  · simp [hm, cSt, zst, zsa, zup]
  · simp [hm, cSt, zst, zsa, zup]
