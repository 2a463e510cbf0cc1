/-! BOTH JUDGES ANSWER THE SAME AT AN END -/
section SM2
variable {b m k n : Nat} {μ ν : zM} {c s : Nat → Int32} {l : List Nat}
theorem FolO_len {sv : Nat → zY → Bool × zY} : ∀ {l : List Nat} {n : Nat} {y : zY}, FolO sv l n y → n ≤ l.length
  | _, 0, _, _ => Nat.zero_le _
  | [], n + 1, _, h => h.elim
  | a :: l, n + 1, y, h => Nat.succ_le_succ (FolO_len h.2)
theorem nd_le {isC : Nat → Prop} : ∀ (l : List Nat) (d : Nat), l.Nodup → (∀ x ∈ l, x < 9 ∧ isC x ∧ d.testBit x = false) → l.length ≤ cdO isC d 9
  | [], _, _, _ => Nat.zero_le _
  | a :: l, d, hn, h => by
    obtain ⟨a9, ac, ad⟩ := h a (List.mem_cons_self)
    have hcd := cd_or ac ad 9
    rw [if_pos a9] at hcd
    obtain ⟨h1, h2⟩ := List.nodup_cons.1 hn
    have := nd_le l (d ||| 2 ^ a) h2 (fun x hx => by
      obtain ⟨x9, xc, xd⟩ := h x (List.mem_cons_of_mem _ hx)
      refine ⟨x9, xc, ?_⟩
      rw [tb_or, xd]
      have : a ≠ x := fun e => h1 (e ▸ hx)
      simp [this])
    rw [List.length_cons]
    omega
/-- at an end without an error every call is over -/
def OvA (μ : zM) (b : Nat) (c : Nat → Int32) : Prop := ∀ t, t < 3 → c (56 + 18 * t) = nI (cN μ b t)
theorem ans_ok (C : Ctx b m μ ν) (W : Wn μ b c s) (h : OvA μ b c) (hk : k < 9) (hc : isCS μ (b + 1) k) : ¬ s (81 + 2 * k + 1) = nI 0 := by
  have h2 : k % 3 < cN μ b (k / 3) := hc
  obtain ⟨-, c0, c1, c2, -⟩ := C.cnt
  have h3 : cN μ b (k / 3) ≤ 3 := by rcases (show k / 3 = 0 ∨ k / 3 = 1 ∨ k / 3 = 2 by omega) with e | e | e <;> rw [e] <;> assumption
  have := (W.2.2.2 (k / 3) (k % 3) (by omega) (by omega)).2 (by rw [h (k / 3) (by omega), n_lt (by omega) (by omega)]; exact h2)
  rw [show 82 + 2 * (3 * (k / 3) + k % 3) = 81 + 2 * k + 1 by omega] at this
  exact this
theorem sv_same (C : Ctx b m μ ν) (W : Wn μ b c s) (h : OvA μ b c) (hk : k < 9) (hc : isCS μ (b + 1) k) (y : zY) : svN ν m s k y = svS μ (b + 1) c k y :=
  C.svE hk (an_over (R_an W.1 hk) (ans_ok C W h hk hc)) y
theorem Ctx.y0A (C : Ctx b m μ ν) : y0N ν m (ν (m + 2) 915).toInt.toNat = y0S μ (b + 1) (μ (b + 1 + 4) 3).toInt.toNat := by
  have e : ν (m + 2) 915 = μ (b + 1 + 4) 3 := C.cts (t := 3) (by omega)
  obtain ⟨hn, -, -, -, c3, -⟩ := C.cnt
  rw [e]
  exact C.y0E _ c3
theorem find_same (C : Ctx b m μ ν) (W : Wn μ b c s) (h : ¬ errS c → OvA μ b c) : findP μ b c ↔ agrP ν m s := by
  unfold findP agrP
  rw [← R_err W.1]
  by_cases he : errS c
  · exact ⟨fun q => absurd he q.1, fun q => absurd he q.1⟩
  · have h := h he
    rw [C.mdE, C.allE, C.y0A]
    have := CmpO_congr (isC := isCN ν m) (isC' := isCS μ (b + 1)) (BF := BFA s) (BF' := fun k => c (37 + k)) (sv := svN ν m s) (sv' := svS μ (b + 1) c) (fun k hk => by rw [C.isE hk]) (fun k hk => (R_bf W.1 hk).symm) (fun k hk hc y => sv_same C W h hk (by rw [C.isE hk] at hc; exact hc) y) (allS μ (b + 1)) 0 (y0S μ (b + 1) (μ (b + 1 + 4) 3).toInt.toNat)
    rw [this]
    exact Iff.rfl
theorem fol_same (C : Ctx b m μ ν) (W : Wn μ b c s) (h : ¬ errS c → OvA μ b c) (hm : ¬ μ (b + 1) 8 = nI 0) (hn : l.Nodup) (hl : ∀ x ∈ l, x < 9 ∧ cOk μ b x) : folP μ b c l ↔ ¬ fndM s ∧ kepP ν m s l := by
  unfold folP kepP
  rw [← R_err W.1]
  by_cases he : errS c
  · exact ⟨fun q => absurd he q.1, fun q => absurd he q.1⟩
  · have h := h he
    have hle := nd_le (isC := isCS μ (b + 1)) l 0 hn (fun x hx => ⟨(hl x hx).1, (hl x hx).2, Nat.zero_testBit _⟩)
    rw [cd_all (C.pj hm)] at hle
    rw [C.allE, C.y0A]
    have hF := FolO_congr (sv := svN ν m s) (sv' := svS μ (b + 1) c) l l.length (y0S μ (b + 1) (μ (b + 1 + 4) 3).toInt.toNat) (fun k hk y => sv_same C W h (hl k hk).1 (hl k hk).2 y)
    constructor
    · rintro ⟨-, q⟩
      have e : l.length = allS μ (b + 1) := Nat.le_antisymm hle (FolO_len q)
      refine ⟨he, e, fun j hj hc => ?_, hF.2 (by rw [e]; exact q)⟩
      rw [C.isE hj] at hc
      have h1 := ans_ok C W h hj hc
      rcases R_an W.1 hj with ⟨-, h2⟩ | ⟨i, hi, -, h2⟩
      · exact absurd h2 h1
      · rw [h2]
        exact (n_p0 (by omega) (by omega)).mpr trivial
    · rintro ⟨-, e, -, q⟩
      refine ⟨he, ?_⟩
      rw [← e]
      exact hF.1 q
end SM2
