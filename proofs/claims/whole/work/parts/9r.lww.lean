/-! THE LAW'S WORLDS: names 0 to 25 FreeShelf, 26 to 49 its search (if made), 50 to 68 the model, 69 the script -/
def lshl (h : Bool) (L : Nat) (fl : List (Option (Option Nat))) : List zSh := [(2, 8, zL8 0 (some (cond h (some 26) none))), (2, 6, zL6 1), (0, 900, []), (0, 6, []), (0, 6, []), (0, 4, []), (0, 13, []), (0, 13, []), (2, 5, zL5 8), (2, 6, zL6 9), (0, 900, []), (0, 6, []), (0, 6, []), (0, 4, []), (0, 13, []), (0, 13, []), (0, 118, []), (2, 3, zL3 17), (3, 7, (List.range 7).map (fun j => some (some (18 + 1 + j)))), (0, 13, []), (0, 13, []), (0, 13, []), (0, 13, []), (0, 13, []), (0, 13, []), (0, 13, []), (2, 1, zL1 26), (2, 5, zL5 27), (2, 6, zL6 28), (0, 900, []), (0, 6, []), (0, 6, []), (0, 4, []), (0, 13, []), (0, 13, []), (0, 118, []), (0, 150000, []), (0, 9000, []), (0, 1500, []), (0, 1500, []), (0, 1500, []), (0, 1500, []), (0, 4096, []), (2, 0, zL0 43), (0, 1500, []), (0, 1500, []), (0, 1500, []), (0, 1500, []), (0, 1500, []), (1, 1500, []), (2, 9, zL9 50), (0, 2880, []), (0, 960, []), (0, 100, []), (0, 16, []), (0, 7, []), (0, 100, []), (0, 150000, []), (0, 1500, []), (0, 2048, []), (0, 1500, []), (0, 9000, []), (1, 9000, []), (0, 1500, []), (0, 1500, []), (0, 1500, []), (0, 1500, []), (1, 1500, []), (0, 1500, []), (9, L, fl)]
def lk9 : List Nat := [2, 2, 0, 0, 0, 0, 0, 0, 2, 2, 0, 0, 0, 0, 0, 0, 0, 2, 3, 0, 0, 0, 0, 0, 0, 0, 2, 2, 2, 0, 0, 0, 0, 0, 0, 0, 0, 0, 0, 0, 0, 0, 0, 2, 0, 0, 0, 0, 0, 1, 2, 0, 0, 0, 0, 0, 0, 0, 0, 0, 0, 0, 1, 0, 0, 0, 0, 1, 0, 9]
def lnC (h : Bool) : List Nat := cond h [0, 1, 2, 3, 4, 5, 6, 7, 8, 9, 10, 11, 12, 13, 14, 15, 16, 17, 18, 19, 20, 21, 22, 23, 24, 25, 26, 27, 28, 29, 30, 31, 32, 33, 34, 35, 36, 37, 38, 39, 40, 41, 42, 43, 44, 45, 46, 47, 48, 49] [0, 1, 2, 3, 4, 5, 6, 7, 8, 9, 10, 11, 12, 13, 14, 15, 16, 17, 18, 19, 20, 21, 22, 23, 24, 25]
def lnM : List Nat := [50, 51, 52, 53, 54, 55, 56, 57, 58, 59, 60, 61, 62, 63, 64, 65, 66, 67, 68]
def lw (h : Bool) (L : Nat) (fl : List (Option (Option Nat))) (ad : Nat → Nat) (D : va_G) (cI cZ cA : ClassId) : zN := (fun n => (lshl h L fl).getD n (0, 0, []), ad, lnC h ++ lnM, D, cI, cZ, cA)
section LWW
variable {h : Bool} {L : Nat} {fl : List (Option (Option Nat))} {ad : Nat → Nat} {D : va_G} {cI cZ cA : ClassId} {n : Nat}
theorem lsh_9 (hn : n ≠ 69) : ((lshl h L fl).getD n (0, 0, [])).1 ≠ 9 := by
  have e : ((lshl h L fl).getD n (0, 0, [])).1 = lk9.getD n 0 := by
    rw [show lk9 = (lshl h L fl).map (fun q => q.1) from rfl, List.getD_eq_getElem?_getD, List.getD_eq_getElem?_getD, List.getElem?_map]
    cases (lshl h L fl)[n]? <;> rfl
  rw [e]
  by_cases h70 : n < 70
  · have : ∀ k : Nat, k < 70 → k ≠ 69 → lk9.getD k 0 ≠ 9 := by decide +kernel
    exact this n h70 hn
  · rw [List.getD_eq_getElem?_getD, List.getElem?_eq_none (show lk9.length ≤ n from Nat.not_lt.mp h70)]
    decide
theorem lw_8F : zC8 (zwn (lw false L fl ad D cI cZ cA) (lnC false)) 0 (some none) := ⟨⟨(List.mem_of_getElem? (i := 0) rfl), rfl⟩, ⟨⟨(List.mem_of_getElem? (i := 1) rfl), rfl⟩, ⟨(List.mem_of_getElem? (i := 2) rfl), rfl⟩, ⟨(List.mem_of_getElem? (i := 3) rfl), rfl⟩, ⟨(List.mem_of_getElem? (i := 4) rfl), rfl⟩, ⟨(List.mem_of_getElem? (i := 5) rfl), rfl⟩, ⟨(List.mem_of_getElem? (i := 6) rfl), rfl⟩, ⟨(List.mem_of_getElem? (i := 7) rfl), rfl⟩⟩, ⟨⟨(List.mem_of_getElem? (i := 8) rfl), rfl⟩, ⟨⟨(List.mem_of_getElem? (i := 9) rfl), rfl⟩, ⟨(List.mem_of_getElem? (i := 10) rfl), rfl⟩, ⟨(List.mem_of_getElem? (i := 11) rfl), rfl⟩, ⟨(List.mem_of_getElem? (i := 12) rfl), rfl⟩, ⟨(List.mem_of_getElem? (i := 13) rfl), rfl⟩, ⟨(List.mem_of_getElem? (i := 14) rfl), rfl⟩, ⟨(List.mem_of_getElem? (i := 15) rfl), rfl⟩⟩, ⟨(List.mem_of_getElem? (i := 16) rfl), rfl⟩⟩, ⟨⟨(List.mem_of_getElem? (i := 17) rfl), rfl⟩, ⟨(List.mem_of_getElem? (i := 18) rfl), rfl⟩, fun j hj => match j, hj with | 0, _ => ⟨(List.mem_of_getElem? (i := 19) rfl), rfl⟩ | 1, _ => ⟨(List.mem_of_getElem? (i := 20) rfl), rfl⟩ | 2, _ => ⟨(List.mem_of_getElem? (i := 21) rfl), rfl⟩ | 3, _ => ⟨(List.mem_of_getElem? (i := 22) rfl), rfl⟩ | 4, _ => ⟨(List.mem_of_getElem? (i := 23) rfl), rfl⟩ | 5, _ => ⟨(List.mem_of_getElem? (i := 24) rfl), rfl⟩ | 6, _ => ⟨(List.mem_of_getElem? (i := 25) rfl), rfl⟩ | j + 7, hj => absurd hj (by omega)⟩⟩
theorem lw_8T : zC8 (zwn (lw true L fl ad D cI cZ cA) (lnC true)) 0 (some (some (0 + 26))) := ⟨⟨(List.mem_of_getElem? (i := 0) rfl), rfl⟩, ⟨⟨(List.mem_of_getElem? (i := 1) rfl), rfl⟩, ⟨(List.mem_of_getElem? (i := 2) rfl), rfl⟩, ⟨(List.mem_of_getElem? (i := 3) rfl), rfl⟩, ⟨(List.mem_of_getElem? (i := 4) rfl), rfl⟩, ⟨(List.mem_of_getElem? (i := 5) rfl), rfl⟩, ⟨(List.mem_of_getElem? (i := 6) rfl), rfl⟩, ⟨(List.mem_of_getElem? (i := 7) rfl), rfl⟩⟩, ⟨⟨(List.mem_of_getElem? (i := 8) rfl), rfl⟩, ⟨⟨(List.mem_of_getElem? (i := 9) rfl), rfl⟩, ⟨(List.mem_of_getElem? (i := 10) rfl), rfl⟩, ⟨(List.mem_of_getElem? (i := 11) rfl), rfl⟩, ⟨(List.mem_of_getElem? (i := 12) rfl), rfl⟩, ⟨(List.mem_of_getElem? (i := 13) rfl), rfl⟩, ⟨(List.mem_of_getElem? (i := 14) rfl), rfl⟩, ⟨(List.mem_of_getElem? (i := 15) rfl), rfl⟩⟩, ⟨(List.mem_of_getElem? (i := 16) rfl), rfl⟩⟩, ⟨⟨(List.mem_of_getElem? (i := 17) rfl), rfl⟩, ⟨(List.mem_of_getElem? (i := 18) rfl), rfl⟩, fun j hj => match j, hj with | 0, _ => ⟨(List.mem_of_getElem? (i := 19) rfl), rfl⟩ | 1, _ => ⟨(List.mem_of_getElem? (i := 20) rfl), rfl⟩ | 2, _ => ⟨(List.mem_of_getElem? (i := 21) rfl), rfl⟩ | 3, _ => ⟨(List.mem_of_getElem? (i := 22) rfl), rfl⟩ | 4, _ => ⟨(List.mem_of_getElem? (i := 23) rfl), rfl⟩ | 5, _ => ⟨(List.mem_of_getElem? (i := 24) rfl), rfl⟩ | 6, _ => ⟨(List.mem_of_getElem? (i := 25) rfl), rfl⟩ | j + 7, hj => absurd hj (by omega)⟩⟩
theorem lw_1T : zC1 (zwn (lw true L fl ad D cI cZ cA) (lnC true)) (0 + 26) := ⟨⟨(List.mem_of_getElem? (i := 26) rfl), rfl⟩, ⟨⟨(List.mem_of_getElem? (i := 27) rfl), rfl⟩, ⟨⟨(List.mem_of_getElem? (i := 28) rfl), rfl⟩, ⟨(List.mem_of_getElem? (i := 29) rfl), rfl⟩, ⟨(List.mem_of_getElem? (i := 30) rfl), rfl⟩, ⟨(List.mem_of_getElem? (i := 31) rfl), rfl⟩, ⟨(List.mem_of_getElem? (i := 32) rfl), rfl⟩, ⟨(List.mem_of_getElem? (i := 33) rfl), rfl⟩, ⟨(List.mem_of_getElem? (i := 34) rfl), rfl⟩⟩, ⟨(List.mem_of_getElem? (i := 35) rfl), rfl⟩⟩, ⟨(List.mem_of_getElem? (i := 36) rfl), rfl⟩, ⟨(List.mem_of_getElem? (i := 37) rfl), rfl⟩, ⟨(List.mem_of_getElem? (i := 38) rfl), rfl⟩, ⟨(List.mem_of_getElem? (i := 39) rfl), rfl⟩, ⟨(List.mem_of_getElem? (i := 40) rfl), rfl⟩, ⟨(List.mem_of_getElem? (i := 41) rfl), rfl⟩, ⟨(List.mem_of_getElem? (i := 42) rfl), rfl⟩, ⟨⟨(List.mem_of_getElem? (i := 43) rfl), rfl⟩, ⟨(List.mem_of_getElem? (i := 44) rfl), rfl⟩, ⟨(List.mem_of_getElem? (i := 45) rfl), rfl⟩, ⟨(List.mem_of_getElem? (i := 46) rfl), rfl⟩, ⟨(List.mem_of_getElem? (i := 47) rfl), rfl⟩, ⟨(List.mem_of_getElem? (i := 48) rfl), rfl⟩, ⟨(List.mem_of_getElem? (i := 49) rfl), rfl⟩⟩⟩
theorem lw_9 : zC9 (zwn (lw h L fl ad D cI cZ cA) lnM) 50 := ⟨⟨(List.mem_of_getElem? (i := 0) rfl), rfl⟩, ⟨(List.mem_of_getElem? (i := 1) rfl), rfl⟩, ⟨(List.mem_of_getElem? (i := 2) rfl), rfl⟩, ⟨(List.mem_of_getElem? (i := 3) rfl), rfl⟩, ⟨(List.mem_of_getElem? (i := 4) rfl), rfl⟩, ⟨(List.mem_of_getElem? (i := 5) rfl), rfl⟩, ⟨(List.mem_of_getElem? (i := 6) rfl), rfl⟩, ⟨(List.mem_of_getElem? (i := 7) rfl), rfl⟩, ⟨(List.mem_of_getElem? (i := 8) rfl), rfl⟩, ⟨(List.mem_of_getElem? (i := 9) rfl), rfl⟩, ⟨(List.mem_of_getElem? (i := 10) rfl), rfl⟩, ⟨(List.mem_of_getElem? (i := 11) rfl), rfl⟩, ⟨(List.mem_of_getElem? (i := 12) rfl), rfl⟩, ⟨(List.mem_of_getElem? (i := 13) rfl), rfl⟩, ⟨(List.mem_of_getElem? (i := 14) rfl), rfl⟩, ⟨(List.mem_of_getElem? (i := 15) rfl), rfl⟩, ⟨(List.mem_of_getElem? (i := 16) rfl), rfl⟩, ⟨(List.mem_of_getElem? (i := 17) rfl), rfl⟩, ⟨(List.mem_of_getElem? (i := 18) rfl), rfl⟩⟩
theorem lw_8 : zC8 (zwn (lw h L fl ad D cI cZ cA) (lnC h)) 0 (some (cond h (some (0 + 26)) none)) := by
  cases h
  · exact lw_8F
  · exact lw_8T
theorem lnC_in : ∀ a ∈ lnC h, a ∈ znm (lw h L fl ad D cI cZ cA) := fun _ q => List.mem_append_left _ q
theorem lnM_in : ∀ a ∈ lnM, a ∈ znm (lw h L fl ad D cI cZ cA) := fun _ q => List.mem_append_right _ q
theorem lnC_nd : (lnC h).Nodup := by cases h <;> decide +kernel
theorem lnM_nd : lnM.Nodup := by decide +kernel
theorem lw_nd : (lnC h ++ lnM).Nodup := by cases h <;> decide +kernel
theorem lnC_lt : ∀ a ∈ lnC h, a < 50 := by cases h <;> decide +kernel
theorem lnM_lt : ∀ a ∈ lnM, 50 ≤ a ∧ a < 69 := by decide +kernel
theorem lnC_0 : 0 ∈ lnC h := by cases h <;> exact (List.mem_of_getElem? (i := 0) rfl)
theorem lnM_50 : 50 ∈ lnM := List.mem_of_getElem? (i := 0) rfl
def lfl (xs : Nat → Int32) (L : Nat) : List (Option (Option Nat)) := (List.range L).map (fun j => some (some (xs j).toBitVec.toNat))
theorem lfl_v {xs : Nat → Int32} {j : Nat} (hj : j < L) : zsv (lfl xs L) j = xs j := by
  have e : (lfl xs L).getD j none = some (some (xs j).toBitVec.toNat) := by
    unfold lfl
    rw [List.getD_eq_getElem?_getD, List.getElem?_map, List.getElem?_range hj]
    rfl
  unfold zsv
  rw [e]
  show Int32.ofNat (xs j).toBitVec.toNat = xs j
  apply Int32.toBitVec_inj.mp
  simp
end LWW
