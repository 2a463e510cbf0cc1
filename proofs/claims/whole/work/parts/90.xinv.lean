/-! EXPLORATIONS: what holds on both sides while states are found -/
section XIV
variable {E m k n i j K T t ch e q : Nat} {μ ν μ' ν' : zM} {c s f c' s' : Nat → Int32}
def rC (μ : zM) (E i : Nat) : Nat → Int32 := rowC (μ (E + 10)) i
def rM (ν : zM) (m i : Nat) : Nat → Int32 := rowM (ν (m + 7)) i
def XRow (E m n : Nat) (μ ν : zM) : Prop := n ≤ 1500 ∧ μ E 11 = nI n ∧ ν m 17 = nI n ∧ (∀ i, i < n → Wn μ (E + 1) (rC μ E i) (rM ν m i)) ∧ ∀ i j, i < j → j < n → ¬ eq100 (rC μ E i) (rC μ E j)
def XTree (E m n : Nat) (μ ν : zM) : Prop := μ (E + 14) 0 = nI 0 ∧ ∀ i, 0 < i → i < n → ∃ p ch d, p < i ∧ ch < 6 ∧ d < i ∧ μ (E + 12) i = nI p ∧ ν (m + 13) i = nI p ∧ μ (E + 13) i = nI ch ∧ ν (m + 14) i = nI ch ∧ μ (E + 14) p = nI d ∧ μ (E + 14) i = nI (d + 1)
def XMark (E m n : Nat) (μ ν : zM) : Prop := ∀ i, i < n → ν (m + 15) i = nI (mkN μ (E + 1) (rC μ E i)) ∧ ν (m + 16) i = nI (cWn (rC μ E i) 6)
def XNext (E m n K : Nat) (μ ν : zM) : Prop := ∀ j, j < K → (μ (E + 11) j = -4 ∧ ν (m + 11) j = -4) ∨ ∃ t e, t < n ∧ e < 2 ∧ μ (E + 11) j = nI t ∧ ν (m + 11) j = nI t ∧ ν (m + 12) j = nI e ∧ ovS (rC μ E t) = ovS (rC μ E (j / 6)) + e
/-- each state but the first is where a choice from an earlier one leads -/
def XReach (E n : Nat) (μ : zM) : Prop := ∀ i, 0 < i → i < n → ∃ p ch, p < i ∧ ch < 6 ∧ μ (E + 11) (p * 6 + ch) = nI i
def cnN (g : Nat → Int32) : Nat → Nat
  | 0 => 0
  | k + 1 => cnN g k + (if g k = -4 then 0 else 1)
def XWay (E m K : Nat) (μ ν : zM) : Prop := ν m 19 = nI (cnN (μ (E + 11)) K) ∧ ∃ e, e < 2 ∧ μ E 10 = nI e ∧ ν m 18 = nI e
def mxW (μ : zM) (E : Nat) : Nat → Nat
  | 0 => 0
  | k + 1 => max (mxW μ E k) (cWn (rC μ E k) 6)
def XTr (E T : Nat) (μ : zM) : Prop := (∀ i, i < T → μ (E + 15) i = nI (trN μ (E + 1) (rC μ E i))) ∧ μ E 12 = nI (mxW μ E T)
def XHash (E m n : Nat) (μ ν : zM) : Prop := HCl (μ (E + 16)) (μ (E + 10)) n ∧ HMo ν m n
def XCtx (E m : Nat) (μ ν : zM) : Prop := Ctx (E + 1) m μ ν ∧ μ (E + 1) 2 = μ (E + 1 + 1) 7 ∧ ν m 3 = nI 0
theorem cnN_cg {g g' : Nat → Int32} : ∀ k, (∀ j, j < k → g' j = g j) → cnN g' k = cnN g k
  | 0, _ => rfl
  | k + 1, h => by rw [cnN, cnN, h k (by omega), cnN_cg k (fun j hj => h j (by omega))]
theorem cnN_le {g : Nat → Int32} : ∀ k, cnN g k ≤ k
  | 0 => Nat.le_refl _
  | k + 1 => by have := cnN_le (g := g) k; unfold cnN; split <;> omega
/-- the class's program is the same -/
def PrE (E : Nat) (μ μ' : zM) : Prop := ∀ a, E + 1 ≤ a → a ≤ E + 8 → μ' a = μ a
theorem PrE.p (h : PrE E μ μ') : ∀ k, k < 7 → μ' (E + 1 + 1 + k) = μ (E + 1 + 1 + k) := fun k hk => h _ (by omega) (by omega)
theorem PrE.wn (h : PrE E μ μ') (W : Wn μ (E + 1) c s) : Wn μ' (E + 1) c s := W.cg (h _ (by omega) (by omega)) (h _ (by omega) (by omega))
theorem PrE.mk (h : PrE E μ μ') : mkN μ' (E + 1) c = mkN μ (E + 1) c := mkN_cg h.p
theorem PrE.tr (h : PrE E μ μ') : trN μ' (E + 1) c = trN μ (E + 1) c := trN_cg h.p
theorem rC_cg (h : μ' (E + 10) = μ (E + 10)) : rC μ' E = rC μ E := by
  funext i
  unfold rC
  rw [h]
theorem rM_cg (h : ν' (m + 7) = ν (m + 7)) : rM ν' m = rM ν m := by
  funext i
  unfold rM
  rw [h]
theorem XCtx.cg (h : XCtx E m μ ν) (hp : PrE E μ μ') (h2 : ν' (m + 2) = ν (m + 2)) (h3 : ν' m 3 = ν m 3) : XCtx E m μ' ν' := by
  obtain ⟨C, l, h0⟩ := h
  exact ⟨(C.cg hp.p).cgM h2, by rw [hp _ (by omega) (by omega), hp _ (by omega) (by omega)]; exact l, h3.trans h0⟩
theorem XRow.cg (h : XRow E m n μ ν) (hp : PrE E μ μ') (h10 : μ' (E + 10) = μ (E + 10)) (h7 : ν' (m + 7) = ν (m + 7)) (h11 : μ' E 11 = μ E 11) (h17 : ν' m 17 = ν m 17) : XRow E m n μ' ν' := by
  unfold XRow at h ⊢
  rw [rC_cg h10, rM_cg h7, h11, h17]
  obtain ⟨a, b, c, d, e⟩ := h
  exact ⟨a, b, c, fun i hi => hp.wn (d i hi), e⟩
theorem XTree.cg (h : XTree E m n μ ν) (h1 : ∀ a, E + 12 ≤ a → a ≤ E + 14 → μ' a = μ a) (h2 : ν' (m + 13) = ν (m + 13)) (h3 : ν' (m + 14) = ν (m + 14)) : XTree E m n μ' ν' := by
  unfold XTree at h ⊢
  rw [h2, h3, h1 (E + 12) (by omega) (by omega), h1 (E + 13) (by omega) (by omega), h1 (E + 14) (by omega) (by omega)]
  exact h
theorem XMark.cg (h : XMark E m n μ ν) (hp : PrE E μ μ') (h10 : μ' (E + 10) = μ (E + 10)) (h2 : ν' (m + 15) = ν (m + 15)) (h3 : ν' (m + 16) = ν (m + 16)) : XMark E m n μ' ν' := by
  intro i hi
  rw [h2, h3, rC_cg h10, hp.mk]
  exact h i hi
theorem XNext.cg (h : XNext E m n K μ ν) (h10 : μ' (E + 10) = μ (E + 10)) (h1 : ∀ j, j < K → μ' (E + 11) j = μ (E + 11) j) (h2 : ∀ j, j < K → ν' (m + 11) j = ν (m + 11) j) (h3 : ∀ j, j < K → ν' (m + 12) j = ν (m + 12) j) : XNext E m n K μ' ν' := by
  intro j hj
  rw [h1 j hj, h2 j hj, h3 j hj, rC_cg h10]
  exact h j hj
theorem mxW_cg (h10 : μ' (E + 10) = μ (E + 10)) : ∀ k, mxW μ' E k = mxW μ E k
  | 0 => rfl
  | k + 1 => by rw [mxW, mxW, mxW_cg h10 k, rC_cg h10]
theorem XTr.cg (h : XTr E T μ) (hp : PrE E μ μ') (h10 : μ' (E + 10) = μ (E + 10)) (h15 : μ' (E + 15) = μ (E + 15)) (h12 : μ' E 12 = μ E 12) : XTr E T μ' := by
  obtain ⟨h1, h2⟩ := h
  refine ⟨fun i hi => ?_, ?_⟩
  · rw [h15, rC_cg h10, hp.tr]; exact h1 i hi
  · rw [h12, mxW_cg h10]; exact h2
theorem HMo.cg (h : HMo ν m n) (h1 : ∀ a, m + 7 ≤ a → a ≤ m + 10 → ν' a = ν a) : HMo ν' m n := by
  unfold HMo at h ⊢
  rw [h1 (m + 7) (by omega) (by omega), h1 (m + 8) (by omega) (by omega), h1 (m + 9) (by omega) (by omega), h1 (m + 10) (by omega) (by omega)]
  exact h
theorem XHash.cg (h : XHash E m n μ ν) (h10 : μ' (E + 10) = μ (E + 10)) (h16 : μ' (E + 16) = μ (E + 16)) (h1 : ∀ a, m + 7 ≤ a → a ≤ m + 10 → ν' a = ν a) : XHash E m n μ' ν' := by
  refine ⟨?_, h.2.cg h1⟩
  rw [h10, h16]
  exact h.1
/-- one more row -/
theorem rC_old (h10 : μ' (E + 10) = va_cpy c (μ (E + 10)) 0 (n * 100) 100) (hi : i < n) : rC μ' E i = rC μ E i := by
  unfold rC
  rw [h10]
  exact row_old hi
theorem rC_new (h10 : μ' (E + 10) = va_cpy c (μ (E + 10)) 0 (n * 100) 100) : eq100 (rC μ' E n) c := by
  unfold rC
  rw [h10]
  exact row_new
theorem rM_old (h7 : ν' (m + 7) = ovr (ν (m + 7)) (100 * n) 100 s) (hi : i < n) : eq100 (rM ν' m i) (rM ν m i) := by
  intro q hq
  unfold rM rowM
  rw [h7, ovr_out (by omega)]
theorem rM_new (h7 : ν' (m + 7) = ovr (ν (m + 7)) (100 * n) 100 s) : eq100 (rM ν' m n) s := by
  intro q hq
  unfold rM rowM
  rw [h7, ovr_at (by omega) (by omega), show 100 * n + q - 100 * n = q by omega]
theorem dead_row : deadZ false (rC μ E i) := by
  refine ⟨?_, ?_, ?_⟩ <;> (unfold rC rowC; rw [if_neg (by omega)])
theorem XRow.add (h : XRow E m n μ ν) (hn : n < 1500) (hp : PrE E μ μ') (h10 : μ' (E + 10) = va_cpy c (μ (E + 10)) 0 (n * 100) 100) (h7 : ν' (m + 7) = ovr (ν (m + 7)) (100 * n) 100 s) (h11 : μ' E 11 = nI (n + 1)) (h17 : ν' m 17 = nI (n + 1)) (W : Wn μ (E + 1) c s) (hne : ∀ t, t < n → ¬ eq100 (rC μ E t) c) : XRow E m (n + 1) μ' ν' := by
  obtain ⟨a1, a2, a3, a4, a5⟩ := h
  refine ⟨by omega, h11, h17, fun i hi => ?_, fun i j hij hj => ?_⟩
  · by_cases e : i = n
    · subst e
      exact ((hp.wn W).cx (rC_new h10) dead_row).sx (rM_new h7)
    · rw [rC_old h10 (by omega)]
      exact (hp.wn (a4 i (by omega))).sx (rM_old h7 (by omega))
  · rw [rC_old h10 (by omega)]
    by_cases e : j = n
    · subst e
      intro q
      exact hne i hij fun r hr => (q r hr).trans (rC_new h10 r hr)
    · rw [rC_old h10 (by omega)]
      exact a5 i j hij (by omega)
theorem XTree.add {p d : Nat} (h : XTree E m n μ ν) (hn : 0 < n) (hp : p < n) (hch : ch < 6) (hd : μ (E + 14) p = nI d) (d1 : d ≤ p) (h12 : μ' (E + 12) = upd (μ (E + 12)) n (nI p)) (h13 : μ' (E + 13) = upd (μ (E + 13)) n (nI ch)) (h14 : μ' (E + 14) = upd (μ (E + 14)) n (nI (d + 1))) (g13 : ν' (m + 13) = upd (ν (m + 13)) n (nI p)) (g14 : ν' (m + 14) = upd (ν (m + 14)) n (nI ch)) : XTree E m (n + 1) μ' ν' := by
  obtain ⟨h0, h⟩ := h
  refine ⟨?_, fun i hi hin => ?_⟩
  · rw [h14, u_ne (by omega)]; exact h0
  · rw [h12, h13, h14, g13, g14]
    by_cases e : i = n
    · subst e
      refine ⟨p, ch, d, hp, hch, by omega, u_at rfl, u_at rfl, u_at rfl, u_at rfl, ?_, u_at rfl⟩
      rw [u_ne (by omega)]; exact hd
    · obtain ⟨p', ch', d', q1, q2, q3, q4, q5, q6, q7, q8, q9⟩ := h i hi (by omega)
      refine ⟨p', ch', d', q1, q2, q3, ?_, ?_, ?_, ?_, ?_, ?_⟩ <;> (rw [u_ne (by omega)]; assumption)
theorem XTree.dp (h : XTree E m n μ ν) (hp : i < n) : ∃ d, d ≤ i ∧ μ (E + 14) i = nI d := by
  by_cases h0 : i = 0
  · exact ⟨0, by omega, by rw [h0]; exact h.1⟩
  · obtain ⟨p, ch, d, -, -, hd, -, -, -, -, -, h9⟩ := h.2 i (by omega) hp
    exact ⟨d + 1, by omega, h9⟩
theorem errS_cx (h : eq100 c' c) : errS c' ↔ errS c := by
  unfold errS
  refine exists_congr fun t => and_congr_right fun ht => ?_
  rw [h _ (by omega)]
theorem psb_cx {N : Nat → Nat} {x : Nat} (h : eq100 c' c) (hx : x < 6) : psb c' N x ↔ psb c N x := by
  unfold psb
  by_cases h3 : x < 3
  · rw [if_pos h3, if_pos h3, h _ (by omega), h _ (by omega)]
  · rw [if_neg h3, if_neg h3, h _ (by omega)]
theorem noS_cx {N : Nat → Nat} (h : eq100 c' c) : noS c' N ↔ noS c N := by
  unfold noS
  exact forall_congr' fun x => imp_congr_right fun hx => not_congr (psb_cx h hx)
theorem cWn_cx (h : eq100 c' c) : ∀ k, k ≤ 6 → cWn c' k = cWn c k
  | 0, _ => rfl
  | k + 1, hk => by rw [cWn, cWn, cWn_cx h k (by omega), h _ (by omega)]
theorem ovS_cx (h : eq100 c' c) : ovS c' = ovS c := by
  unfold ovS
  rw [h _ (by omega), h _ (by omega), h _ (by omega)]
theorem svS_cx {b : Nat} (h : eq100 c' c) (hk : k < 9) : svS μ b c' k = svS μ b c k := by
  funext y
  unfold svS
  rw [h _ (by omega)]
theorem findP_cx {b : Nat} (h : eq100 c' c) : findP μ b c' ↔ findP μ b c := by
  unfold findP
  rw [errS_cx h]
  refine and_congr_right fun _ => or_congr_right ?_
  exact CmpO_congr (fun _ _ => Iff.rfl) (fun k hk => h _ (by omega)) (fun k hk _ y => by rw [svS_cx h hk]) _ _ _
theorem folP_cx {b : Nat} {l : List Nat} (h : eq100 c' c) (hl : ∀ x ∈ l, x < 9) : folP μ b c' l ↔ folP μ b c l := by
  unfold folP
  rw [errS_cx h]
  refine and_congr_right fun _ => ?_
  exact FolO_congr _ _ _ (fun k hk y => by rw [svS_cx h (hl k hk)])
theorem kepS_cx {b : Nat} (h : eq100 c' c) : kepS μ b c' ↔ kepS μ b c := by
  unfold kepS
  refine exists_congr fun l => and_congr_right fun _ => and_congr_right fun hl => and_congr_right fun _ => ?_
  rw [h _ (by omega), folP_cx h (fun x hx => (hl x hx).1)]
theorem mkN_cx {b : Nat} (h : eq100 c' c) : mkN μ b c' = mkN μ b c := by
  unfold mkN
  rw [b01_cg (noS_cx h), b01_cg (and_congr (noS_cx h) (findP_cx h)), b01_cg (and_congr (noS_cx h) (and_congr_right fun _ => kepS_cx h)), b01_cg (errS_cx h)]
theorem trN_cx {b : Nat} (h : eq100 c' c) : trN μ b c' = trN μ b c := by
  unfold trN
  rw [cWn_cx h 6 (by omega), b01_cg (noS_cx h), b01_cg (and_congr (noS_cx h) (not_congr (findP_cx h))), b01_cg (and_congr (noS_cx h) (and_congr_right fun _ => not_congr (kepS_cx h))), b01_cg (errS_cx h)]
theorem XMark.add (h : XMark E m n μ ν) (hp : PrE E μ μ') (h10 : μ' (E + 10) = va_cpy c (μ (E + 10)) 0 (n * 100) 100) (h2 : ν' (m + 15) = upd (ν (m + 15)) n (nI (mkN μ (E + 1) c))) (h3 : ν' (m + 16) = upd (ν (m + 16)) n (nI (cWn c 6))) : XMark E m (n + 1) μ' ν' := by
  intro i hi
  rw [h2, h3, hp.mk]
  by_cases e : i = n
  · subst e
    rw [u_at rfl, u_at rfl, mkN_cx (rC_new h10), cWn_cx (rC_new h10) 6 (by omega)]
    exact ⟨rfl, rfl⟩
  · rw [u_ne e, u_ne e, rC_old h10 (by omega)]
    exact h i (by omega)
theorem XNext.add (h : XNext E m n K μ ν) (hK : ∀ j, j < K → j / 6 < n) (h10 : μ' (E + 10) = va_cpy c (μ (E + 10)) 0 (n * 100) 100) (h1 : ∀ j, j < K → μ' (E + 11) j = μ (E + 11) j) (h2 : ∀ j, j < K → ν' (m + 11) j = ν (m + 11) j) (h3 : ∀ j, j < K → ν' (m + 12) j = ν (m + 12) j) : XNext E m (n + 1) K μ' ν' := by
  intro j hj
  rw [h1 j hj, h2 j hj, h3 j hj, rC_old h10 (hK j hj)]
  rcases h j hj with h | ⟨t, e, q1, q2, q3, q4, q5, q6⟩
  · exact Or.inl h
  · exact Or.inr ⟨t, e, by omega, q2, q3, q4, q5, by rw [rC_old h10 q1]; exact q6⟩
theorem mxW_old (h10 : μ' (E + 10) = va_cpy c (μ (E + 10)) 0 (n * 100) 100) : ∀ k, k ≤ n → mxW μ' E k = mxW μ E k
  | 0, _ => rfl
  | k + 1, hk => by rw [mxW, mxW, mxW_old h10 k (by omega), rC_old h10 (by omega)]
theorem XTr.add (h : XTr E T μ) (hT : T ≤ n) (hp : PrE E μ μ') (h10 : μ' (E + 10) = va_cpy c (μ (E + 10)) 0 (n * 100) 100) (h15 : μ' (E + 15) = μ (E + 15)) (h12 : μ' E 12 = μ E 12) : XTr E T μ' := by
  obtain ⟨h1, h2⟩ := h
  refine ⟨fun i hi => ?_, ?_⟩
  · rw [h15, rC_old h10 (by omega), hp.tr]; exact h1 i hi
  · rw [h12, mxW_old h10 T hT]; exact h2
theorem rowM_eq100 (h : eq100 s c) : True := trivial
theorem HMo.add (h : HMo ν m n) (h7 : ν' (m + 7) = ovr (ν (m + 7)) (100 * n) 100 s) (h8 : ν' (m + 8) = upd (ν (m + 8)) n (smM s 100)) (h9 : ν' (m + 9) = upd (ν (m + 9)) (bk (smM s 100)) (nI (n + 1))) (h10 : ν' (m + 10) = upd (ν (m + 10)) n (ν (m + 9) (bk (smM s 100)))) : HMo ν' m (n + 1) := by
  obtain ⟨a1, a2, a3⟩ := h
  have old : ∀ i, i < n → smM (rowM (ν' (m + 7)) i) 100 = smM (rowM (ν (m + 7)) i) 100 := fun i hi => smM_eq (rM_old h7 hi) 100 (by omega)
  have new : smM (rowM (ν' (m + 7)) n) 100 = smM s 100 := smM_eq (rM_new h7) 100 (by omega)
  have bo : ∀ i, i < n → bkM (ν' (m + 7)) i = bkM (ν (m + 7)) i := fun i hi => by unfold bkM; rw [old i hi]
  have bn : bkM (ν' (m + 7)) n = bk (smM s 100) := by unfold bkM; rw [new]
  refine ⟨fun i hi => ?_, fun h hh => ?_, fun i hi => ?_⟩
  · rw [h8]
    by_cases e : i = n
    · rw [u_at e, e, new]
    · rw [u_ne e, old i (by omega)]; exact a1 i (by omega)
  · rw [h9, lst, bn]
    by_cases e : bk (smM s 100) = h
    · rw [u_at e.symm, if_pos e]
    · rw [u_ne (fun q => e q.symm), if_neg e, lst_cg n bo]; exact a2 h hh
  · rw [h10]
    by_cases e : i = n
    · subst e
      rw [u_at rfl, bn, lst_cg i bo]
      exact a2 _ (bk_lt _)
    · rw [u_ne e, bo i (by omega), lst_cg i (fun j hj => bo j (by omega))]; exact a3 i (by omega)
end XIV
