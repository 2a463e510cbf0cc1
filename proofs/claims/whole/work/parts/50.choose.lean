/-! A CHOICE, on both sides -/
def cN (μ : zM) (b t : Nat) : Nat := (μ (b + 1 + 4) t).toInt.toNat
def cZb (μ : zM) (b : Nat) : Bool := decide (¬ μ (b + 1) 6 = nI 2)
def cOk (μ : zM) (b k : Nat) : Prop := k % 3 < cN μ b (k / 3)
def TX (c : Nat → Int32) (bc n : Nat) : Prop := (¬ c (bc + 12) = nI 0 → ¬ c (bc + 10) = nI n) ∧ (c (bc + 11) = nI 0 → (∀ a, a < 6 → c (bc + a) = nI 0) ∧ c (bc + 9) = nI 0) ∧ (c (bc + 11) = nI 1 → ¬ c (bc + 10) = nI n)
def AnsI (c s : Nat → Int32) : Prop := ∀ t i, t < 3 → i < 3 → (¬ s (82 + 2 * (3 * t + i)) = nI 0 ↔ nI i < c (56 + 18 * t))
/-- a state of a run: the class's row and the model's -/
def Wn (μ : zM) (b : Nat) (c s : Nat → Int32) : Prop := Rel (cZb μ b) (cOk μ b) (cN μ b) false c s ∧ deadZ false c ∧ (∀ t, t < 3 → TX c (46 + 18 * t) (cN μ b t)) ∧ AnsI c s
/-- programs of the machines, and the settings behind the start -/
def CtxN (b m : Nat) (μ ν : zM) (f : Nat → Int32) : Prop := Ctx b m μ ν ∧ μ b 2 = μ (b + 1) 7 ∧ f 3 = nI 0
section CHO
variable {c s f : Nat → Int32} {t bc : Nat} {b m : Nat} {μ ν : zM} {Q : Int32 → zM → Prop}
theorem Ctx.cnt (C : Ctx b m μ ν) : (∀ t, t < 4 → μ (b + 1 + 4) t = nI (cN μ b t) ∧ ν (m + 2) (912 + t) = nI (cN μ b t)) ∧ cN μ b 0 ≤ 3 ∧ cN μ b 1 ≤ 3 ∧ cN μ b 2 ≤ 3 ∧ cN μ b 3 ≤ 4 ∧ cN μ b 0 + cN μ b 1 + cN μ b 2 ≤ 6 := by
  obtain ⟨⟨-, -, -, -, h5, -⟩, -, -, -, ⟨n, hn, n0, n1, n2, n3, n6⟩, -⟩ := C
  have e : ∀ t, t < 4 → n t < 2147483648 := fun t ht => by rcases (show t = 0 ∨ t = 1 ∨ t = 2 ∨ t = 3 by omega) with rfl | rfl | rfl | rfl <;> omega
  have hc : ∀ t, t < 4 → cN μ b t = n t := fun t ht => by
    unfold cN
    rw [show μ (b + 1 + 4) t = nI (n t) from hn t ht, n_tn (e t ht)]
  refine ⟨fun t ht => ⟨by rw [hc t ht]; exact hn t ht, by rw [hc t ht, h5 t ht]; exact hn t ht⟩, ?_, ?_, ?_, ?_, ?_⟩
  · rw [hc 0 (by omega)]; exact n0
  · rw [hc 1 (by omega)]; exact n1
  · rw [hc 2 (by omega)]; exact n2
  · rw [hc 3 (by omega)]; exact n3
  · rw [hc 0 (by omega), hc 1 (by omega), hc 2 (by omega)]; exact n6
def okC (n : Nat → Nat) : Nat → Nat
  | 0 => 0
  | k + 1 => okC n k + (if k % 3 < n (k / 3) then 1 else 0)
theorem okC_len (n : Nat → Nat) : ∀ (k : Nat) (l : List Nat), l.Nodup → (∀ s ∈ l, s < k ∧ s % 3 < n (s / 3)) → l.length ≤ okC n k
  | 0, l, _, h => by
    cases l with
    | nil => exact Nat.zero_le _
    | cons a l => have := (h a List.mem_cons_self).1; omega
  | k + 1, l, hn, h => by
    unfold okC
    by_cases hk : k ∈ l
    · have h1 := okC_len n k (l.erase k) (hn.erase k) (fun s hs => by
        have hm := (hn.mem_erase_iff).mp hs
        have := h s hm.2
        exact ⟨by omega, this.2⟩)
      rw [List.length_erase_of_mem hk] at h1
      rw [if_pos (h k hk).2]
      omega
    · have h1 := okC_len n k l hn (fun s hs => by
        have := h s hs
        have : s ≠ k := fun e => hk (e ▸ hs)
        exact ⟨by omega, (h s hs).2⟩)
      omega
theorem okC_9 {n : Nat → Nat} (h0 : n 0 ≤ 3) (h1 : n 1 ≤ 3) (h2 : n 2 ≤ 3) : okC n 9 = n 0 + n 1 + n 2 := by
  have three : ∀ a, a ≤ 3 → (if 0 < a then 1 else 0) + (if 1 < a then 1 else 0) + (if 2 < a then 1 else 0) = a := fun a ha => by
    rcases (show a = 0 ∨ a = 1 ∨ a = 2 ∨ a = 3 by omega) with rfl | rfl | rfl | rfl <;> rfl
  have e : okC n 9 = ((((((((0 + (if 0 < n 0 then 1 else 0)) + (if 1 < n 0 then 1 else 0)) + (if 2 < n 0 then 1 else 0)) + (if 0 < n 1 then 1 else 0)) + (if 1 < n 1 then 1 else 0)) + (if 2 < n 1 then 1 else 0)) + (if 0 < n 2 then 1 else 0)) + (if 1 < n 2 then 1 else 0)) + (if 2 < n 2 then 1 else 0) := rfl
  rw [e]
  have a0 := three _ h0
  have a1 := three _ h1
  have a2 := three _ h2
  omega
theorem Ctx.ok6 (C : Ctx b m μ ν) : ∀ l : List Nat, l.Nodup → (∀ s ∈ l, s < 9 ∧ cOk μ b s) → l.length ≤ 6 := by
  obtain ⟨-, h0, h1, h2, -, h6⟩ := C.cnt
  intro l hn hl
  have := okC_len (cN μ b) 9 l hn hl
  rw [okC_9 h0 h1 h2] at this
  omega
theorem cZb_1 : cZb μ b = false ∨ ¬ μ (b + 1) 6 = nI 2 := by
  unfold cZb
  by_cases h : μ (b + 1) 6 = nI 2
  · exact Or.inl (by simp [h])
  · exact Or.inr h
theorem cZb_2 : cZb μ b = true ∨ μ (b + 1) 6 = nI 2 := by
  unfold cZb
  by_cases h : μ (b + 1) 6 = nI 2
  · exact Or.inr h
  · exact Or.inl (by simp [h])
theorem Ctx.mn (C : Ctx b m μ ν) : ν (m + 2) 948 = μ (b + 1) 6 ∧ ν (m + 2) 949 = μ (b + 1) 7 ∧ ν (m + 2) 950 = μ (b + 1) 8 := C.1.2.2.2.2.2.2
theorem Ctx.lt2 (C : Ctx b m μ ν) : ∃ k, k < 2 ∧ μ (b + 1) 7 = nI k := C.2.2.2.2.2.2.2.1
theorem Ctx.rt (C : Ctx b m μ ν) {τ o : Nat} (ht : τ < 4) (ho : o < (if τ = 3 then 4 else 3)) : ∃ r, r < 6 ∧ ν (m + 2) (916 + 4 * τ + o) = nI r ∧ μ (b + 1 + 5) (τ * 3 + o) = nI r ∧ ν (m + 2) (932 + 4 * τ + o) = μ (b + 1 + 6) (τ * 3 + o) := by
  obtain ⟨e1, e2⟩ := C.1.2.2.2.2.2.1 τ o ht ho
  obtain ⟨r, hr, e3⟩ := C.2.2.2.2.2.1 (τ * 3 + o) (by split at ho <;> omega)
  exact ⟨r, hr, e1.trans e3, e3, e2⟩
/-- whether a choice is possible -/
def psb (c : Nat → Int32) (n : Nat → Nat) (ch : Nat) : Prop := if ch < 3 then c (58 + 18 * ch) = nI 0 ∧ ¬ c (56 + 18 * ch) = nI (n ch) else ¬ c (59 + 18 * (ch - 3)) = nI 0
theorem Wn.over (W : Wn μ b c s) (ht : t < 3) : ∃ o, o ≤ cN μ b t ∧ c (56 + 18 * t) = nI o ∧ s (27 + 18 * t) = nI o := by
  obtain ⟨k, k1, k2, k3⟩ : relN (cN μ b t) (c (46 + 18 * t + 10)) (s (27 + 18 * t + 0)) := W.1.th (t := t) (Or.inr ⟨rfl, ht, rfl⟩) (o := 0) (by omega)
  exact ⟨k, k1, by rw [show 56 + 18 * t = 46 + 18 * t + 10 by omega]; exact k2, k3⟩
theorem Wn.err (W : Wn μ b c s) (ht : t < 3) : ∃ e, e ≤ 6 ∧ c (58 + 18 * t) = nI e ∧ s (27 + 18 * t + 3) = nI e := by
  obtain ⟨k, k1, k2, k3⟩ : relN 6 (c (46 + 18 * t + 12)) (s (27 + 18 * t + 3)) := W.1.th (t := t) (Or.inr ⟨rfl, ht, rfl⟩) (o := 3) (by omega)
  exact ⟨k, k1, by rw [show 58 + 18 * t = 46 + 18 * t + 12 by omega]; exact k2, k3⟩
theorem Wn.held (W : Wn μ b c s) (ht : t < 3) : ∃ e, e ≤ 4 ∧ c (59 + 18 * t) = nI e ∧ s (27 + 18 * t + 7) = nI e := by
  obtain ⟨k, k1, k2, k3⟩ : relN 4 (c (46 + 18 * t + 13)) (s (27 + 18 * t + 7)) := W.1.th (t := t) (Or.inr ⟨rfl, ht, rfl⟩) (o := 7) (by omega)
  exact ⟨k, k1, by rw [show 59 + 18 * t = 46 + 18 * t + 13 by omega]; exact k2, k3⟩
theorem e_psb {ch : Nat} (C : Ctx b m μ ν) (W : Wn μ b c s) (hc : ch < 6) : wr (M_X5_isPossible b [nI ch] (zsa μ (b + 8) c)) (fun r m' => tv r (psb c (cN μ b) ch) ∧ m' = zsa μ (b + 8) c) := by
  simp only [M_X5_isPossible, B_X5_isPossible]
  have hr : ch - ch / 3 * 3 = ch % 3 := by omega
  have hrem : nI ch - nI ch / nI 3 * nI 3 = nI (ch % 3) := n_rem (by omega) (by omega)
  by_cases h3 : ch < 3
  · obtain ⟨o, o1, o2, -⟩ := W.over h3
    obtain ⟨e, e1, e2, -⟩ := W.err h3
    have hcn := (C.cnt.1 ch (by omega)).1
    have hN := C.cnt.2
    have hcN : cN μ b ch ≤ 4 := by rcases (show ch = 0 ∨ ch = 1 ∨ ch = 2 by omega) with rfl | rfl | rfl <;> omega
    have em : ch % 3 = ch := by omega
    have i1 : 46 + ch * 18 + 12 = 58 + 18 * ch := by omega
    have i2 : 46 + ch * 18 + 10 = 56 + 18 * ch := by omega
    unfold psb
    rw [if_pos h3, o2, e2]
    by_cases he : e = 0
    · subst he
      by_cases ho : o < cN μ b ch
      · simp -implicitDefEqProofs (disch := omega) only [zA0_ap, zA1_ap, zA2_ap, zA3_ap, zA4_ap, zA5_ap, v_fi, v_fz, v_fv, w_k, v_l, v_bin, v_biq, v_ald, v_tb, w_al, w_fd, v_cond, v_call, v_pi, w_an, v_ai, v_aq, v_cmp, v_cm0, w_cb, v_nt, v_and, v_or, w_sk, w_bk, w_cn, w_rv, v_rt, v_sq, v_se, v_ex, v_as, v_az, v_ao, v_pf, v_pz, v_fo, v_if, v_sw, v_lw, v_fl, v_cy, v_cyd, w_lr, wl_some, k_sq0, k_sq1, k_sq2, k_sq3, k_se, k_ex, k_rt, k_l, k_b2, k_b1, k_q2, k_q1, k_ald, k_tb, k_pi, k_condT, k_condF, k_condK, k_call, k_ac, k_ai, k_aq, k_c2, k_c1, k_c0, k_nt, k_andT, k_andF, k_orT, k_orF, k_as2, k_as1, k_az2, k_az1, k_ao2, k_ao1, k_pf, k_pz, k_fo, k_ifT, k_ifF, k_br0, k_br1, k_br2, k_br3, k_s0, k_s1, k_t1, k_s4, k_t4, k_s20, k_t20, zpk_n, zpk_z, zpk_s, k_lw, k_fl, k_cy3, k_cy2, k_cy1, k_cd2, k_cd1, k_w3, k_w20, k_w21, k_w22, k_w23, k_w1T, k_w1F, k_fi, k_fz1, k_fz0, k_fzi, k_fz, k_fv0, k_fv3, k_I, k_B0, k_B1, k_B2, k_B3, k_C, k_E, zenv, zup, ze0, n_add, n_mul, m_st, m_sa, m_ne, m_ss, mm_s, mm_f, mm_ne, mm_ss, mm_sf, Nat.zero_add, u_at, u_ne, if_true, if_false, ite_true, ite_false, reduceIte, and_self, and_true, true_and, or_true, true_or, or_false, false_or, or_self, and_false, false_and, Bool.not_true, Bool.not_false, decide_true, decide_false, ne_eq, n_eqT, n_eqF, n_ltT, n_ltF, n_leT, n_leF, n_z0, n_zF, n_o1, n_oF, n_p0, n_pF, n_lt0, n_ge0, zeq, zne, zlt, zle, zge, zgt, ziadd, zisub, zimul, ziand, zior, zixor, zishl, zishr, ziushr, zidiv, zirem, zmax, zmin, Bool.false_eq_true, not_true_eq_false, not_false_eq_true, Nat.reduceEqDiff, Nat.reduceAdd, Nat.reduceMul, Nat.reduceSub, hrem, em, e_ofThread, i1, i2, e2, o2, hcn, k_condK]
        first | exact Or.inl ⟨rfl, trivial⟩ | exact Or.inr ⟨rfl, fun q => q⟩
      · have : o = cN μ b ch := by omega
        subst this
        simp -implicitDefEqProofs (disch := omega) only [zA0_ap, zA1_ap, zA2_ap, zA3_ap, zA4_ap, zA5_ap, v_fi, v_fz, v_fv, w_k, v_l, v_bin, v_biq, v_ald, v_tb, w_al, w_fd, v_cond, v_call, v_pi, w_an, v_ai, v_aq, v_cmp, v_cm0, w_cb, v_nt, v_and, v_or, w_sk, w_bk, w_cn, w_rv, v_rt, v_sq, v_se, v_ex, v_as, v_az, v_ao, v_pf, v_pz, v_fo, v_if, v_sw, v_lw, v_fl, v_cy, v_cyd, w_lr, wl_some, k_sq0, k_sq1, k_sq2, k_sq3, k_se, k_ex, k_rt, k_l, k_b2, k_b1, k_q2, k_q1, k_ald, k_tb, k_pi, k_condT, k_condF, k_condK, k_call, k_ac, k_ai, k_aq, k_c2, k_c1, k_c0, k_nt, k_andT, k_andF, k_orT, k_orF, k_as2, k_as1, k_az2, k_az1, k_ao2, k_ao1, k_pf, k_pz, k_fo, k_ifT, k_ifF, k_br0, k_br1, k_br2, k_br3, k_s0, k_s1, k_t1, k_s4, k_t4, k_s20, k_t20, zpk_n, zpk_z, zpk_s, k_lw, k_fl, k_cy3, k_cy2, k_cy1, k_cd2, k_cd1, k_w3, k_w20, k_w21, k_w22, k_w23, k_w1T, k_w1F, k_fi, k_fz1, k_fz0, k_fzi, k_fz, k_fv0, k_fv3, k_I, k_B0, k_B1, k_B2, k_B3, k_C, k_E, zenv, zup, ze0, n_add, n_mul, m_st, m_sa, m_ne, m_ss, mm_s, mm_f, mm_ne, mm_ss, mm_sf, Nat.zero_add, u_at, u_ne, if_true, if_false, ite_true, ite_false, reduceIte, and_self, and_true, true_and, or_true, true_or, or_false, false_or, or_self, and_false, false_and, Bool.not_true, Bool.not_false, decide_true, decide_false, ne_eq, n_eqT, n_eqF, n_ltT, n_ltF, n_leT, n_leF, n_z0, n_zF, n_o1, n_oF, n_p0, n_pF, n_lt0, n_ge0, zeq, zne, zlt, zle, zge, zgt, ziadd, zisub, zimul, ziand, zior, zixor, zishl, zishr, ziushr, zidiv, zirem, zmax, zmin, Bool.false_eq_true, not_true_eq_false, not_false_eq_true, Nat.reduceEqDiff, Nat.reduceAdd, Nat.reduceMul, Nat.reduceSub, hrem, em, e_ofThread, i1, i2, e2, o2, hcn, k_condK]
        first | exact Or.inl ⟨rfl, trivial⟩ | exact Or.inr ⟨rfl, fun q => q⟩
    · simp -implicitDefEqProofs (disch := omega) only [zA0_ap, zA1_ap, zA2_ap, zA3_ap, zA4_ap, zA5_ap, v_fi, v_fz, v_fv, w_k, v_l, v_bin, v_biq, v_ald, v_tb, w_al, w_fd, v_cond, v_call, v_pi, w_an, v_ai, v_aq, v_cmp, v_cm0, w_cb, v_nt, v_and, v_or, w_sk, w_bk, w_cn, w_rv, v_rt, v_sq, v_se, v_ex, v_as, v_az, v_ao, v_pf, v_pz, v_fo, v_if, v_sw, v_lw, v_fl, v_cy, v_cyd, w_lr, wl_some, k_sq0, k_sq1, k_sq2, k_sq3, k_se, k_ex, k_rt, k_l, k_b2, k_b1, k_q2, k_q1, k_ald, k_tb, k_pi, k_condT, k_condF, k_condK, k_call, k_ac, k_ai, k_aq, k_c2, k_c1, k_c0, k_nt, k_andT, k_andF, k_orT, k_orF, k_as2, k_as1, k_az2, k_az1, k_ao2, k_ao1, k_pf, k_pz, k_fo, k_ifT, k_ifF, k_br0, k_br1, k_br2, k_br3, k_s0, k_s1, k_t1, k_s4, k_t4, k_s20, k_t20, zpk_n, zpk_z, zpk_s, k_lw, k_fl, k_cy3, k_cy2, k_cy1, k_cd2, k_cd1, k_w3, k_w20, k_w21, k_w22, k_w23, k_w1T, k_w1F, k_fi, k_fz1, k_fz0, k_fzi, k_fz, k_fv0, k_fv3, k_I, k_B0, k_B1, k_B2, k_B3, k_C, k_E, zenv, zup, ze0, n_add, n_mul, m_st, m_sa, m_ne, m_ss, mm_s, mm_f, mm_ne, mm_ss, mm_sf, Nat.zero_add, u_at, u_ne, if_true, if_false, ite_true, ite_false, reduceIte, and_self, and_true, true_and, or_true, true_or, or_false, false_or, or_self, and_false, false_and, Bool.not_true, Bool.not_false, decide_true, decide_false, ne_eq, n_eqT, n_eqF, n_ltT, n_ltF, n_leT, n_leF, n_z0, n_zF, n_o1, n_oF, n_p0, n_pF, n_lt0, n_ge0, zeq, zne, zlt, zle, zge, zgt, ziadd, zisub, zimul, ziand, zior, zixor, zishl, zishr, ziushr, zidiv, zirem, zmax, zmin, Bool.false_eq_true, not_true_eq_false, not_false_eq_true, Nat.reduceEqDiff, Nat.reduceAdd, Nat.reduceMul, Nat.reduceSub, hrem, em, e_ofThread, i1, i2, e2, o2, hcn, k_condK, show 0 < e by omega]
      first | exact Or.inl ⟨rfl, trivial⟩ | exact Or.inr ⟨rfl, fun q => q⟩
  · obtain ⟨h, h1, h2, -⟩ := W.held (t := ch - 3) (by omega)
    have em : ch % 3 = ch - 3 := by omega
    have i1 : 46 + (ch - 3) * 18 + 13 = 59 + 18 * (ch - 3) := by omega
    unfold psb
    rw [if_neg h3, h2]
    by_cases h0 : h = 0
    · subst h0
      simp -implicitDefEqProofs (disch := omega) only [zA0_ap, zA1_ap, zA2_ap, zA3_ap, zA4_ap, zA5_ap, v_fi, v_fz, v_fv, w_k, v_l, v_bin, v_biq, v_ald, v_tb, w_al, w_fd, v_cond, v_call, v_pi, w_an, v_ai, v_aq, v_cmp, v_cm0, w_cb, v_nt, v_and, v_or, w_sk, w_bk, w_cn, w_rv, v_rt, v_sq, v_se, v_ex, v_as, v_az, v_ao, v_pf, v_pz, v_fo, v_if, v_sw, v_lw, v_fl, v_cy, v_cyd, w_lr, wl_some, k_sq0, k_sq1, k_sq2, k_sq3, k_se, k_ex, k_rt, k_l, k_b2, k_b1, k_q2, k_q1, k_ald, k_tb, k_pi, k_condT, k_condF, k_condK, k_call, k_ac, k_ai, k_aq, k_c2, k_c1, k_c0, k_nt, k_andT, k_andF, k_orT, k_orF, k_as2, k_as1, k_az2, k_az1, k_ao2, k_ao1, k_pf, k_pz, k_fo, k_ifT, k_ifF, k_br0, k_br1, k_br2, k_br3, k_s0, k_s1, k_t1, k_s4, k_t4, k_s20, k_t20, zpk_n, zpk_z, zpk_s, k_lw, k_fl, k_cy3, k_cy2, k_cy1, k_cd2, k_cd1, k_w3, k_w20, k_w21, k_w22, k_w23, k_w1T, k_w1F, k_fi, k_fz1, k_fz0, k_fzi, k_fz, k_fv0, k_fv3, k_I, k_B0, k_B1, k_B2, k_B3, k_C, k_E, zenv, zup, ze0, n_add, n_mul, m_st, m_sa, m_ne, m_ss, mm_s, mm_f, mm_ne, mm_ss, mm_sf, Nat.zero_add, u_at, u_ne, if_true, if_false, ite_true, ite_false, reduceIte, and_self, and_true, true_and, or_true, true_or, or_false, false_or, or_self, and_false, false_and, Bool.not_true, Bool.not_false, decide_true, decide_false, ne_eq, n_eqT, n_eqF, n_ltT, n_ltF, n_leT, n_leF, n_z0, n_zF, n_o1, n_oF, n_p0, n_pF, n_lt0, n_ge0, zeq, zne, zlt, zle, zge, zgt, ziadd, zisub, zimul, ziand, zior, zixor, zishl, zishr, ziushr, zidiv, zirem, zmax, zmin, Bool.false_eq_true, not_true_eq_false, not_false_eq_true, Nat.reduceEqDiff, Nat.reduceAdd, Nat.reduceMul, Nat.reduceSub, hrem, em, e_ofThread, i1, h2, k_condK]
      first | exact Or.inl ⟨rfl, trivial⟩ | exact Or.inr ⟨rfl, fun q => q⟩
    · simp -implicitDefEqProofs (disch := omega) only [zA0_ap, zA1_ap, zA2_ap, zA3_ap, zA4_ap, zA5_ap, v_fi, v_fz, v_fv, w_k, v_l, v_bin, v_biq, v_ald, v_tb, w_al, w_fd, v_cond, v_call, v_pi, w_an, v_ai, v_aq, v_cmp, v_cm0, w_cb, v_nt, v_and, v_or, w_sk, w_bk, w_cn, w_rv, v_rt, v_sq, v_se, v_ex, v_as, v_az, v_ao, v_pf, v_pz, v_fo, v_if, v_sw, v_lw, v_fl, v_cy, v_cyd, w_lr, wl_some, k_sq0, k_sq1, k_sq2, k_sq3, k_se, k_ex, k_rt, k_l, k_b2, k_b1, k_q2, k_q1, k_ald, k_tb, k_pi, k_condT, k_condF, k_condK, k_call, k_ac, k_ai, k_aq, k_c2, k_c1, k_c0, k_nt, k_andT, k_andF, k_orT, k_orF, k_as2, k_as1, k_az2, k_az1, k_ao2, k_ao1, k_pf, k_pz, k_fo, k_ifT, k_ifF, k_br0, k_br1, k_br2, k_br3, k_s0, k_s1, k_t1, k_s4, k_t4, k_s20, k_t20, zpk_n, zpk_z, zpk_s, k_lw, k_fl, k_cy3, k_cy2, k_cy1, k_cd2, k_cd1, k_w3, k_w20, k_w21, k_w22, k_w23, k_w1T, k_w1F, k_fi, k_fz1, k_fz0, k_fzi, k_fz, k_fv0, k_fv3, k_I, k_B0, k_B1, k_B2, k_B3, k_C, k_E, zenv, zup, ze0, n_add, n_mul, m_st, m_sa, m_ne, m_ss, mm_s, mm_f, mm_ne, mm_ss, mm_sf, Nat.zero_add, u_at, u_ne, if_true, if_false, ite_true, ite_false, reduceIte, and_self, and_true, true_and, or_true, true_or, or_false, false_or, or_self, and_false, false_and, Bool.not_true, Bool.not_false, decide_true, decide_false, ne_eq, n_eqT, n_eqF, n_ltT, n_ltF, n_leT, n_leF, n_z0, n_zF, n_o1, n_oF, n_p0, n_pF, n_lt0, n_ge0, zeq, zne, zlt, zle, zge, zgt, ziadd, zisub, zimul, ziand, zior, zixor, zishl, zishr, ziushr, zidiv, zirem, zmax, zmin, Bool.false_eq_true, not_true_eq_false, not_false_eq_true, Nat.reduceEqDiff, Nat.reduceAdd, Nat.reduceMul, Nat.reduceSub, hrem, em, e_ofThread, i1, h2, k_condK, show 0 < h by omega]
      first | exact Or.inl ⟨rfl, trivial⟩ | exact Or.inr ⟨rfl, fun q => q⟩
theorem g_psb {ch : Nat} (C : Ctx b m μ ν) (W : Wn μ b c s) (hc : ch < 6) : wr (M_X9_isThere m [nI ch] (zmm ν m s f)) (fun r m' => tv r (psb c (cN μ b) ch) ∧ m' = zmm ν m s f) := by
  simp only [M_X9_isThere, B_X9_isThere]
  by_cases h3 : ch < 3
  · obtain ⟨o, o1, o2, o3⟩ := W.over h3
    obtain ⟨e, e1, e2, e3⟩ := W.err h3
    have hcn := (C.cnt.1 ch (by omega)).2
    have hN := C.cnt.2
    have hcN : cN μ b ch ≤ 4 := by rcases (show ch = 0 ∨ ch = 1 ∨ ch = 2 by omega) with rfl | rfl | rfl <;> omega
    unfold psb
    rw [if_pos h3, o2, e2]
    by_cases he : e = 0
    · subst he
      by_cases ho : o < cN μ b ch
      · simp -implicitDefEqProofs (disch := omega) only [zA0_ap, zA1_ap, zA2_ap, zA3_ap, zA4_ap, zA5_ap, v_fi, v_fz, v_fv, w_k, v_l, v_bin, v_biq, v_ald, v_tb, w_al, w_fd, v_cond, v_call, v_pi, w_an, v_ai, v_aq, v_cmp, v_cm0, w_cb, v_nt, v_and, v_or, w_sk, w_bk, w_cn, w_rv, v_rt, v_sq, v_se, v_ex, v_as, v_az, v_ao, v_pf, v_pz, v_fo, v_if, v_sw, v_lw, v_fl, v_cy, v_cyd, w_lr, wl_some, k_sq0, k_sq1, k_sq2, k_sq3, k_se, k_ex, k_rt, k_l, k_b2, k_b1, k_q2, k_q1, k_ald, k_tb, k_pi, k_condT, k_condF, k_condK, k_call, k_ac, k_ai, k_aq, k_c2, k_c1, k_c0, k_nt, k_andT, k_andF, k_orT, k_orF, k_as2, k_as1, k_az2, k_az1, k_ao2, k_ao1, k_pf, k_pz, k_fo, k_ifT, k_ifF, k_br0, k_br1, k_br2, k_br3, k_s0, k_s1, k_t1, k_s4, k_t4, k_s20, k_t20, zpk_n, zpk_z, zpk_s, k_lw, k_fl, k_cy3, k_cy2, k_cy1, k_cd2, k_cd1, k_w3, k_w20, k_w21, k_w22, k_w23, k_w1T, k_w1F, k_fi, k_fz1, k_fz0, k_fzi, k_fz, k_fv0, k_fv3, k_I, k_B0, k_B1, k_B2, k_B3, k_C, k_E, zenv, zup, ze0, n_add, n_mul, m_st, m_sa, m_ne, m_ss, mm_s, mm_f, mm_ne, mm_ss, mm_sf, Nat.zero_add, u_at, u_ne, if_true, if_false, ite_true, ite_false, reduceIte, and_self, and_true, true_and, or_true, true_or, or_false, false_or, or_self, and_false, false_and, Bool.not_true, Bool.not_false, decide_true, decide_false, ne_eq, n_eqT, n_eqF, n_ltT, n_ltF, n_leT, n_leF, n_z0, n_zF, n_o1, n_oF, n_p0, n_pF, n_lt0, n_ge0, zeq, zne, zlt, zle, zge, zgt, ziadd, zisub, zimul, ziand, zior, zixor, zishl, zishr, ziushr, zidiv, zirem, zmax, zmin, Bool.false_eq_true, not_true_eq_false, not_false_eq_true, Nat.reduceEqDiff, Nat.reduceAdd, Nat.reduceMul, Nat.reduceSub, g_at, Nat.add_zero, e3, o3, hcn, k_condK]
        first | exact Or.inl ⟨rfl, trivial⟩ | exact Or.inr ⟨rfl, fun q => q⟩
      · have : o = cN μ b ch := by omega
        subst this
        simp -implicitDefEqProofs (disch := omega) only [zA0_ap, zA1_ap, zA2_ap, zA3_ap, zA4_ap, zA5_ap, v_fi, v_fz, v_fv, w_k, v_l, v_bin, v_biq, v_ald, v_tb, w_al, w_fd, v_cond, v_call, v_pi, w_an, v_ai, v_aq, v_cmp, v_cm0, w_cb, v_nt, v_and, v_or, w_sk, w_bk, w_cn, w_rv, v_rt, v_sq, v_se, v_ex, v_as, v_az, v_ao, v_pf, v_pz, v_fo, v_if, v_sw, v_lw, v_fl, v_cy, v_cyd, w_lr, wl_some, k_sq0, k_sq1, k_sq2, k_sq3, k_se, k_ex, k_rt, k_l, k_b2, k_b1, k_q2, k_q1, k_ald, k_tb, k_pi, k_condT, k_condF, k_condK, k_call, k_ac, k_ai, k_aq, k_c2, k_c1, k_c0, k_nt, k_andT, k_andF, k_orT, k_orF, k_as2, k_as1, k_az2, k_az1, k_ao2, k_ao1, k_pf, k_pz, k_fo, k_ifT, k_ifF, k_br0, k_br1, k_br2, k_br3, k_s0, k_s1, k_t1, k_s4, k_t4, k_s20, k_t20, zpk_n, zpk_z, zpk_s, k_lw, k_fl, k_cy3, k_cy2, k_cy1, k_cd2, k_cd1, k_w3, k_w20, k_w21, k_w22, k_w23, k_w1T, k_w1F, k_fi, k_fz1, k_fz0, k_fzi, k_fz, k_fv0, k_fv3, k_I, k_B0, k_B1, k_B2, k_B3, k_C, k_E, zenv, zup, ze0, n_add, n_mul, m_st, m_sa, m_ne, m_ss, mm_s, mm_f, mm_ne, mm_ss, mm_sf, Nat.zero_add, u_at, u_ne, if_true, if_false, ite_true, ite_false, reduceIte, and_self, and_true, true_and, or_true, true_or, or_false, false_or, or_self, and_false, false_and, Bool.not_true, Bool.not_false, decide_true, decide_false, ne_eq, n_eqT, n_eqF, n_ltT, n_ltF, n_leT, n_leF, n_z0, n_zF, n_o1, n_oF, n_p0, n_pF, n_lt0, n_ge0, zeq, zne, zlt, zle, zge, zgt, ziadd, zisub, zimul, ziand, zior, zixor, zishl, zishr, ziushr, zidiv, zirem, zmax, zmin, Bool.false_eq_true, not_true_eq_false, not_false_eq_true, Nat.reduceEqDiff, Nat.reduceAdd, Nat.reduceMul, Nat.reduceSub, g_at, Nat.add_zero, e3, o3, hcn, k_condK]
        first | exact Or.inl ⟨rfl, trivial⟩ | exact Or.inr ⟨rfl, fun q => q⟩
    · simp -implicitDefEqProofs (disch := omega) only [zA0_ap, zA1_ap, zA2_ap, zA3_ap, zA4_ap, zA5_ap, v_fi, v_fz, v_fv, w_k, v_l, v_bin, v_biq, v_ald, v_tb, w_al, w_fd, v_cond, v_call, v_pi, w_an, v_ai, v_aq, v_cmp, v_cm0, w_cb, v_nt, v_and, v_or, w_sk, w_bk, w_cn, w_rv, v_rt, v_sq, v_se, v_ex, v_as, v_az, v_ao, v_pf, v_pz, v_fo, v_if, v_sw, v_lw, v_fl, v_cy, v_cyd, w_lr, wl_some, k_sq0, k_sq1, k_sq2, k_sq3, k_se, k_ex, k_rt, k_l, k_b2, k_b1, k_q2, k_q1, k_ald, k_tb, k_pi, k_condT, k_condF, k_condK, k_call, k_ac, k_ai, k_aq, k_c2, k_c1, k_c0, k_nt, k_andT, k_andF, k_orT, k_orF, k_as2, k_as1, k_az2, k_az1, k_ao2, k_ao1, k_pf, k_pz, k_fo, k_ifT, k_ifF, k_br0, k_br1, k_br2, k_br3, k_s0, k_s1, k_t1, k_s4, k_t4, k_s20, k_t20, zpk_n, zpk_z, zpk_s, k_lw, k_fl, k_cy3, k_cy2, k_cy1, k_cd2, k_cd1, k_w3, k_w20, k_w21, k_w22, k_w23, k_w1T, k_w1F, k_fi, k_fz1, k_fz0, k_fzi, k_fz, k_fv0, k_fv3, k_I, k_B0, k_B1, k_B2, k_B3, k_C, k_E, zenv, zup, ze0, n_add, n_mul, m_st, m_sa, m_ne, m_ss, mm_s, mm_f, mm_ne, mm_ss, mm_sf, Nat.zero_add, u_at, u_ne, if_true, if_false, ite_true, ite_false, reduceIte, and_self, and_true, true_and, or_true, true_or, or_false, false_or, or_self, and_false, false_and, Bool.not_true, Bool.not_false, decide_true, decide_false, ne_eq, n_eqT, n_eqF, n_ltT, n_ltF, n_leT, n_leF, n_z0, n_zF, n_o1, n_oF, n_p0, n_pF, n_lt0, n_ge0, zeq, zne, zlt, zle, zge, zgt, ziadd, zisub, zimul, ziand, zior, zixor, zishl, zishr, ziushr, zidiv, zirem, zmax, zmin, Bool.false_eq_true, not_true_eq_false, not_false_eq_true, Nat.reduceEqDiff, Nat.reduceAdd, Nat.reduceMul, Nat.reduceSub, g_at, Nat.add_zero, e3, o3, hcn, k_condK, show 0 < e by omega]
      first | exact Or.inl ⟨rfl, trivial⟩ | exact Or.inr ⟨rfl, fun q => q⟩
  · obtain ⟨h, h1, h2, h3'⟩ := W.held (t := ch - 3) (by omega)
    unfold psb
    rw [if_neg h3, h2]
    by_cases h0 : h = 0
    · subst h0
      simp -implicitDefEqProofs (disch := omega) only [zA0_ap, zA1_ap, zA2_ap, zA3_ap, zA4_ap, zA5_ap, v_fi, v_fz, v_fv, w_k, v_l, v_bin, v_biq, v_ald, v_tb, w_al, w_fd, v_cond, v_call, v_pi, w_an, v_ai, v_aq, v_cmp, v_cm0, w_cb, v_nt, v_and, v_or, w_sk, w_bk, w_cn, w_rv, v_rt, v_sq, v_se, v_ex, v_as, v_az, v_ao, v_pf, v_pz, v_fo, v_if, v_sw, v_lw, v_fl, v_cy, v_cyd, w_lr, wl_some, k_sq0, k_sq1, k_sq2, k_sq3, k_se, k_ex, k_rt, k_l, k_b2, k_b1, k_q2, k_q1, k_ald, k_tb, k_pi, k_condT, k_condF, k_condK, k_call, k_ac, k_ai, k_aq, k_c2, k_c1, k_c0, k_nt, k_andT, k_andF, k_orT, k_orF, k_as2, k_as1, k_az2, k_az1, k_ao2, k_ao1, k_pf, k_pz, k_fo, k_ifT, k_ifF, k_br0, k_br1, k_br2, k_br3, k_s0, k_s1, k_t1, k_s4, k_t4, k_s20, k_t20, zpk_n, zpk_z, zpk_s, k_lw, k_fl, k_cy3, k_cy2, k_cy1, k_cd2, k_cd1, k_w3, k_w20, k_w21, k_w22, k_w23, k_w1T, k_w1F, k_fi, k_fz1, k_fz0, k_fzi, k_fz, k_fv0, k_fv3, k_I, k_B0, k_B1, k_B2, k_B3, k_C, k_E, zenv, zup, ze0, n_add, n_mul, m_st, m_sa, m_ne, m_ss, mm_s, mm_f, mm_ne, mm_ss, mm_sf, Nat.zero_add, u_at, u_ne, if_true, if_false, ite_true, ite_false, reduceIte, and_self, and_true, true_and, or_true, true_or, or_false, false_or, or_self, and_false, false_and, Bool.not_true, Bool.not_false, decide_true, decide_false, ne_eq, n_eqT, n_eqF, n_ltT, n_ltF, n_leT, n_leF, n_z0, n_zF, n_o1, n_oF, n_p0, n_pF, n_lt0, n_ge0, zeq, zne, zlt, zle, zge, zgt, ziadd, zisub, zimul, ziand, zior, zixor, zishl, zishr, ziushr, zidiv, zirem, zmax, zmin, Bool.false_eq_true, not_true_eq_false, not_false_eq_true, Nat.reduceEqDiff, Nat.reduceAdd, Nat.reduceMul, Nat.reduceSub, g_at, n_sub, h3', k_condK]
      first | exact Or.inl ⟨rfl, trivial⟩ | exact Or.inr ⟨rfl, fun q => q⟩
    · simp -implicitDefEqProofs (disch := omega) only [zA0_ap, zA1_ap, zA2_ap, zA3_ap, zA4_ap, zA5_ap, v_fi, v_fz, v_fv, w_k, v_l, v_bin, v_biq, v_ald, v_tb, w_al, w_fd, v_cond, v_call, v_pi, w_an, v_ai, v_aq, v_cmp, v_cm0, w_cb, v_nt, v_and, v_or, w_sk, w_bk, w_cn, w_rv, v_rt, v_sq, v_se, v_ex, v_as, v_az, v_ao, v_pf, v_pz, v_fo, v_if, v_sw, v_lw, v_fl, v_cy, v_cyd, w_lr, wl_some, k_sq0, k_sq1, k_sq2, k_sq3, k_se, k_ex, k_rt, k_l, k_b2, k_b1, k_q2, k_q1, k_ald, k_tb, k_pi, k_condT, k_condF, k_condK, k_call, k_ac, k_ai, k_aq, k_c2, k_c1, k_c0, k_nt, k_andT, k_andF, k_orT, k_orF, k_as2, k_as1, k_az2, k_az1, k_ao2, k_ao1, k_pf, k_pz, k_fo, k_ifT, k_ifF, k_br0, k_br1, k_br2, k_br3, k_s0, k_s1, k_t1, k_s4, k_t4, k_s20, k_t20, zpk_n, zpk_z, zpk_s, k_lw, k_fl, k_cy3, k_cy2, k_cy1, k_cd2, k_cd1, k_w3, k_w20, k_w21, k_w22, k_w23, k_w1T, k_w1F, k_fi, k_fz1, k_fz0, k_fzi, k_fz, k_fv0, k_fv3, k_I, k_B0, k_B1, k_B2, k_B3, k_C, k_E, zenv, zup, ze0, n_add, n_mul, m_st, m_sa, m_ne, m_ss, mm_s, mm_f, mm_ne, mm_ss, mm_sf, Nat.zero_add, u_at, u_ne, if_true, if_false, ite_true, ite_false, reduceIte, and_self, and_true, true_and, or_true, true_or, or_false, false_or, or_self, and_false, false_and, Bool.not_true, Bool.not_false, decide_true, decide_false, ne_eq, n_eqT, n_eqF, n_ltT, n_ltF, n_leT, n_leF, n_z0, n_zF, n_o1, n_oF, n_p0, n_pF, n_lt0, n_ge0, zeq, zne, zlt, zle, zge, zgt, ziadd, zisub, zimul, ziand, zior, zixor, zishl, zishr, ziushr, zidiv, zirem, zmax, zmin, Bool.false_eq_true, not_true_eq_false, not_false_eq_true, Nat.reduceEqDiff, Nat.reduceAdd, Nat.reduceMul, Nat.reduceSub, g_at, n_sub, h3', k_condK, show 0 < h by omega]
      first | exact Or.inl ⟨rfl, trivial⟩ | exact Or.inr ⟨rfl, fun q => q⟩
/-- the calls that are over, of all threads -/
def ovS (c : Nat → Int32) : Nat := (c 56).toInt.toNat + (c 74).toInt.toNat + (c 92).toInt.toNat
theorem AnsI.ext {c' s' : Nat → Int32} (h : AnsI c s) (hs : ∀ k, k < 9 → s' (82 + 2 * k) = s (82 + 2 * k)) (hc : ∀ t, t < 3 → c' (56 + 18 * t) = c (56 + 18 * t)) : AnsI c' s' := fun t i ht hi => by
  rw [hs _ (by omega), hc t ht]
  exact h t i ht hi
theorem TX.ext {c' : Nat → Int32} {n : Nat} (h : TX c bc n) (hc : ∀ j, bc ≤ j → j < bc + 13 → c' j = c j) : TX c' bc n := by
  obtain ⟨h1, h2, h3⟩ := h
  unfold TX
  rw [hc (bc + 12) (by omega) (by omega), hc (bc + 10) (by omega) (by omega), hc (bc + 11) (by omega) (by omega), hc (bc + 9) (by omega) (by omega)]
  exact ⟨h1, fun q => ⟨fun a ha => by rw [hc _ (by omega) (by omega)]; exact (h2 q).1 a ha, (h2 q).2⟩, h3⟩
theorem Wn.come (C : CtxN b m μ ν f) (W : Wn μ b c s) (ht : t < 3) (h0 : ¬ c (59 + 18 * t) = nI 0) : ∃ c' s' : Nat → Int32, (∀ Q, wr (M_X5_comeOldest b [nI (46 + 18 * t)] (zsa μ (b + 8) c)) Q = Q 0 (zsa μ (b + 8) c')) ∧ (∀ (f : Nat → Int32) Q, wr (M_X9_comes m [nI t] (zmm ν m s f)) Q = Q 0 (zmm ν m s' f)) ∧ Wn μ b c' s' ∧ ∀ u, u < 3 → c' (56 + 18 * u) = c (56 + 18 * u) := by
  obtain ⟨h, h4, hh, -⟩ := W.held ht
  have hT : Th false t (46 + 18 * t) := Or.inr ⟨rfl, ht, rfl⟩
  have hne : h ≠ 0 := fun q => h0 (by rw [hh, q])
  obtain ⟨c', s', e1, e2, R', q1, q2, q3⟩ := s_come (b := b) (m := m) cZb_1 rfl C.1.mn.1 W.1 hT (by rw [show 46 + 18 * t + 13 = 59 + 18 * t by omega]; exact hh) (by omega) h4
  refine ⟨c', s', e1, e2, ⟨R', deadZ_fr hT W.2.1 fun j h1 h2 => q2 j (by omega) (by omega), fun u hu => (W.2.2.1 u hu).ext fun j h1 h2 => q2 j (by omega) (by omega), W.2.2.2.ext (fun k hk => q3 _ (by omega) (by omega)) fun u hu => q2 _ (by omega) (by omega)⟩, fun u hu => q2 _ (by omega) (by omega)⟩
/-- a step of a thread in a run -/
theorem Wn.step (C : CtxN b m μ ν f) (W : Wn μ b c s) (ht : t < 3) (he : c (58 + 18 * t) = nI 0) (hn : ¬ c (56 + 18 * t) = nI (cN μ b t)) : ∃ c' s' f' : Nat → Int32, (∀ Q, wr (M_X5_advance b [nI t] (zsa μ (b + 8) c)) Q = Q 0 (zsa μ (b + 8) c')) ∧ (∀ Q, wr (M_X9_steps m [nI t] (zmm ν m s f)) Q = Q 0 (zmm ν m s' f')) ∧ Wn μ b c' s' ∧ (∀ j, j ≠ 4 → j ≠ 5 → f' j = f j) ∧ ((f' 4 = nI 0 ∧ c' (56 + 18 * t) = c (56 + 18 * t)) ∨ (f' 4 = nI 1 ∧ ∃ o, c (56 + 18 * t) = nI o ∧ o < 3 ∧ c' (56 + 18 * t) = nI (o + 1))) ∧ ∀ u, u < 3 → u ≠ t → c' (56 + 18 * u) = c (56 + 18 * u) := by
  obtain ⟨C0, hlt, hf3⟩ := C
  obtain ⟨R, hd, hX, hA⟩ := W
  have W : Wn μ b c s := ⟨R, hd, hX, hA⟩
  have hcn := C0.cnt
  have hN3 : ∀ u, u < 3 → cN μ b u ≤ 3 := fun u hu => by rcases (show u = 0 ∨ u = 1 ∨ u = 2 by omega) with rfl | rfl | rfl <;> omega
  obtain ⟨o, o1, o2, o3⟩ := W.over ht
  have hon : o < cN μ b t := by
    rcases Nat.lt_or_ge o (cN μ b t) with h | h
    · exact h
    · have : o = cN μ b t := by omega
      subst this
      exact absurd o2 hn
  have hN := hN3 t ht
  have hT : Th false t (46 + 18 * t) := Or.inr ⟨rfl, ht, rfl⟩
  obtain ⟨r, r6, r1, r2, r3⟩ := C0.rt (τ := t) (o := o) (by omega) (by rw [if_neg (by omega)]; omega)
  obtain ⟨dl, dl2, hdl⟩ := C0.lt2
  have hok : cOk μ b (t * 3 + o) := by
    unfold cOk
    rw [show (t * 3 + o) / 3 = t by omega, show (t * 3 + o) % 3 = o by omega]
    exact hon
  have S : StC (cZb μ b) (cOk μ b) (cN μ b) false b m μ ν f t (46 + 18 * t) t o r (t * 3 + o) dl (μ (b + 1) 6) := by
    refine ⟨hT, C0, ⟨rfl, C0.mn.1⟩, ⟨cZb_1, cZb_2⟩, C0.ok6, Or.inr ⟨rfl, hf3, rfl, rfl, by omega, hok⟩, by omega, hon, ⟨r1, r2, r6⟩, ⟨by rw [hlt]; exact hdl, dl2⟩, fun s f' Q q => ?_⟩
    have := g_isLate (b := m) (ν := ν) (s := s) (f := f') (Q := Q) (sN := 0) (lN := dl) (q.trans hf3) (by rw [C0.mn.2.1]; exact hdl) (by omega) dl2
    rw [this]
    rcases (show dl = 0 ∨ dl = 1 by omega) with rfl | rfl
    · rfl
    · rfl
  have eov : ∀ u, u < 3 → ∃ k, k ≤ 3 ∧ s (27 + 18 * u) = nI k := fun u hu => by
    obtain ⟨k, k1, k2, k3⟩ := W.over hu
    exact ⟨k, by have := hN3 u hu; omega, k3⟩
  have hov : ∀ u, u < 3 → s (27 + 18 * u) = nI ((s (27 + 18 * u)).toInt.toNat) ∧ (s (27 + 18 * u)).toInt.toNat ≤ 3 := fun u hu => by
    obtain ⟨k, k1, k2⟩ := eov u hu
    rw [k2, n_tn (by omega)]
    exact ⟨rfl, k1⟩
  have ex := hX t ht
  have e10 : 46 + 18 * t + 10 = 56 + 18 * t := by omega
  have e12 : 46 + 18 * t + 12 = 58 + 18 * t := by omega
  obtain ⟨c', s', f', k1, k2, R', k3, k4, k5, k6, k7⟩ := s_step (ov := fun u => (s (27 + 18 * u)).toInt.toNat) S R hd (by rw [e12]; exact he) (by rw [e10]; exact o2) (hcn.1 t (by omega)).1 hon (by omega) ex.2.1 (fun u hu => ⟨(hov u hu).1, by have := (hov u hu).2; show _ ≤ 4; omega⟩) (fun _ u hu => (hov u hu).2) (by show (s (27 + 18 * t)).toInt.toNat = o; rw [o3, n_tn (by omega)]) r3
  rw [e10] at k4 k5
  have oth : ∀ u, u < 3 → u ≠ t → c' (56 + 18 * u) = c (56 + 18 * u) := fun u hu hne => k6 _ (by omega) (by omega) (fun _ => ⟨by omega, by omega⟩)
  have neo : ¬ nI o = nI (o + 1) := fun q => by have := (n_eq (by omega) (by omega)).mp q; omega
  have hfin : (c' (56 + 18 * t) = nI o ∧ c' (46 + 18 * t + 11) = nI 1) ∨ (c' (56 + 18 * t) = nI (o + 1) ∧ c' (46 + 18 * t + 11) = nI 0 ∧ c' (46 + 18 * t + 12) = nI 0 ∧ c' (46 + 18 * t + 9) = nI 0 ∧ ∀ a, a < 6 → c' (46 + 18 * t + a) = nI 0) := by
    rcases k4 with q | q
    · exact Or.inl ⟨q.1, q.2.1⟩
    · exact Or.inr ⟨q.1, q.2.1, q.2.2.1, q.2.2.2.1, fun a ha => q.2.2.2.2.1 a (by omega)⟩
  refine ⟨c', s', f', k1, k2, ⟨R', deadZ_fr hT hd fun j h1 h2 => k6 j (by omega) h2 (fun _ => ⟨by omega, by omega⟩), fun u hu => ?_, fun u i hu hi => ?_⟩, k3, ?_, oth⟩
  · by_cases hut : u = t
    · subst hut
      unfold TX
      rw [e10]
      rcases hfin with ⟨q1, q2⟩ | ⟨q1, q2, q3, q4, q5⟩
      · rw [q1, q2]
        have : ¬ nI o = nI (cN μ b u) := fun q => by have := (n_eq (by omega) (by omega)).mp q; omega
        exact ⟨fun _ => this, fun q => absurd q (by decide), fun _ => this⟩
      · rw [q2, q3]
        exact ⟨fun q => absurd rfl q, fun _ => ⟨q5, q4⟩, fun q => absurd q (by decide)⟩
    · exact (hX u hu).ext fun j h1 h2 => k6 j (by omega) (by omega) (fun _ => ⟨by omega, by omega⟩)
  · by_cases hut : u = t
    · subst hut
      have hA0 := hA u i hu hi
      rw [o2] at hA0
      by_cases hio : i = o
      · subst hio
        rw [show 82 + 2 * (3 * u + i) = 82 + 2 * (u * 3 + i) by omega] at hA0 ⊢
        rcases k4 with q | q
        · rw [k5 q.1 (by omega), q.1]
          exact hA0
        · rw [q.1]
          exact ⟨fun _ => (n_lt (by omega) (by omega)).mpr (by omega), fun _ => q.2.2.2.2.2.2 (by omega)⟩
      · rw [k7 _ (by omega) (by omega) (by omega) (fun _ => ⟨by omega, by omega⟩)]
        rw [hA0]
        rcases hfin with ⟨q1, -⟩ | ⟨q1, -⟩
        · rw [q1]
        · rw [q1, n_lt (by omega) (by omega), n_lt (by omega) (by omega)]
          omega
    · rw [oth u hu hut, k7 _ (by omega) (by omega) (by omega) (fun _ => ⟨by omega, by omega⟩)]
      exact hA u i hu hi
  · rcases k4 with q | q
    · exact Or.inl ⟨q.2.2, by rw [q.1, o2]⟩
    · exact Or.inr ⟨q.2.2.2.2.2.1, o, o2, by omega, q.1⟩
theorem ovS_eq {c' : Nat → Int32} (h : ∀ u, u < 3 → c' (56 + 18 * u) = c (56 + 18 * u)) : ovS c' = ovS c := by
  unfold ovS
  have h0 := h 0 (by omega)
  have h1 := h 1 (by omega)
  have h2 := h 2 (by omega)
  rw [show (56 : Nat) = 56 + 18 * 0 from rfl, show (74 : Nat) = 56 + 18 * 1 from rfl, show (92 : Nat) = 56 + 18 * 2 from rfl, h0, h1, h2]
theorem ovS_s {c' : Nat → Int32} {o : Nat} (ht : t < 3) (h : ∀ u, u < 3 → u ≠ t → c' (56 + 18 * u) = c (56 + 18 * u)) (h1 : c (56 + 18 * t) = nI o) (o3 : o < 3) (h2 : c' (56 + 18 * t) = nI (o + 1)) : ovS c' = ovS c + 1 := by
  unfold ovS
  rcases (show t = 0 ∨ t = 1 ∨ t = 2 by omega) with rfl | rfl | rfl
  · have a1 := h 1 (by omega) (by omega)
    have a2 := h 2 (by omega) (by omega)
    rw [show c' 56 = nI (o + 1) from h2, show c 56 = nI o from h1, show c' 74 = c 74 from a1, show c' 92 = c 92 from a2, n_tn (by omega), n_tn (by omega)]
    omega
  · have a1 := h 0 (by omega) (by omega)
    have a2 := h 2 (by omega) (by omega)
    rw [show c' 74 = nI (o + 1) from h2, show c 74 = nI o from h1, show c' 56 = c 56 from a1, show c' 92 = c 92 from a2, n_tn (by omega), n_tn (by omega)]
    omega
  · have a1 := h 0 (by omega) (by omega)
    have a2 := h 1 (by omega) (by omega)
    rw [show c' 92 = nI (o + 1) from h2, show c 92 = nI o from h1, show c' 56 = c 56 from a1, show c' 74 = c 74 from a2, n_tn (by omega), n_tn (by omega)]
    omega
/-- a choice that is possible -/
theorem Wn.choose {ch : Nat} (C : CtxN b m μ ν f) (W : Wn μ b c s) (hc : ch < 6) (hp : psb c (cN μ b) ch) : ∃ (c' s' f' : Nat → Int32) (e : Nat), (∀ Q, wr (M_X5_choose b [nI ch] (zsa μ (b + 8) c)) Q = Q 0 (zsa μ (b + 8) c')) ∧ (∀ Q, wr (M_X9_chooses m [nI ch] (zmm ν m s f)) Q = Q 0 (zmm ν m s' f')) ∧ Wn μ b c' s' ∧ (∀ j, j ≠ 4 → j ≠ 5 → f' j = f j) ∧ e < 2 ∧ f' 4 = nI e ∧ ovS c' = ovS c + e := by
  by_cases h3 : ch < 3
  · unfold psb at hp
    rw [if_pos h3] at hp
    have C' : CtxN b m μ ν (upd f 4 (nI 0)) := ⟨C.1, C.2.1, by rw [u_ne (by omega)]; exact C.2.2⟩
    obtain ⟨c', s', f', k1, k2, W', k3, k4, k5⟩ := W.step C' h3 hp.1 hp.2
    have hfr : ∀ j, j ≠ 4 → j ≠ 5 → f' j = f j := fun j h4 h5 => by rw [k3 j h4 h5, u_ne h4]
    have g1 : ∀ Q, wr (M_X5_choose b [nI ch] (zsa μ (b + 8) c)) Q = Q 0 (zsa μ (b + 8) c') := fun Q => by
      refine wr_fn ?_ Q
      simp only [M_X5_choose, B_X5_choose]
      simp -implicitDefEqProofs (disch := omega) only [zA0_ap, zA1_ap, zA2_ap, zA3_ap, zA4_ap, zA5_ap, v_fi, v_fz, v_fv, w_k, v_l, v_bin, v_biq, v_ald, v_tb, w_al, w_fd, v_cond, v_call, v_pi, w_an, v_ai, v_aq, v_cmp, v_cm0, w_cb, v_nt, v_and, v_or, w_sk, w_bk, w_cn, w_rv, v_rt, v_sq, v_se, v_ex, v_as, v_az, v_ao, v_pf, v_pz, v_fo, v_if, v_sw, v_lw, v_fl, v_cy, v_cyd, w_lr, wl_some, k_sq0, k_sq1, k_sq2, k_sq3, k_se, k_ex, k_rt, k_l, k_b2, k_b1, k_q2, k_q1, k_ald, k_tb, k_pi, k_condT, k_condF, k_condK, k_call, k_ac, k_ai, k_aq, k_c2, k_c1, k_c0, k_nt, k_andT, k_andF, k_orT, k_orF, k_as2, k_as1, k_az2, k_az1, k_ao2, k_ao1, k_pf, k_pz, k_fo, k_ifT, k_ifF, k_br0, k_br1, k_br2, k_br3, k_s0, k_s1, k_t1, k_s4, k_t4, k_s20, k_t20, zpk_n, zpk_z, zpk_s, k_lw, k_fl, k_cy3, k_cy2, k_cy1, k_cd2, k_cd1, k_w3, k_w20, k_w21, k_w22, k_w23, k_w1T, k_w1F, k_fi, k_fz1, k_fz0, k_fzi, k_fz, k_fv0, k_fv3, k_I, k_B0, k_B1, k_B2, k_B3, k_C, k_E, zenv, zup, ze0, n_add, n_mul, m_st, m_sa, m_ne, m_ss, mm_s, mm_f, mm_ne, mm_ss, mm_sf, Nat.zero_add, u_at, u_ne, if_true, if_false, ite_true, ite_false, reduceIte, and_self, and_true, true_and, or_true, true_or, or_false, false_or, or_self, and_false, false_and, Bool.not_true, Bool.not_false, decide_true, decide_false, ne_eq, n_eqT, n_eqF, n_ltT, n_ltF, n_leT, n_leF, n_z0, n_zF, n_o1, n_oF, n_p0, n_pF, n_lt0, n_ge0, zeq, zne, zlt, zle, zge, zgt, ziadd, zisub, zimul, ziand, zior, zixor, zishl, zishr, ziushr, zidiv, zirem, zmax, zmin, Bool.false_eq_true, not_true_eq_false, not_false_eq_true, Nat.reduceEqDiff, Nat.reduceAdd, Nat.reduceMul, Nat.reduceSub, k1]
    have g2 : ∀ Q, wr (M_X9_chooses m [nI ch] (zmm ν m s f)) Q = Q 0 (zmm ν m s' f') := fun Q => by
      refine wr_fn ?_ Q
      simp only [M_X9_chooses, B_X9_chooses]
      simp -implicitDefEqProofs (disch := omega) only [zA0_ap, zA1_ap, zA2_ap, zA3_ap, zA4_ap, zA5_ap, v_fi, v_fz, v_fv, w_k, v_l, v_bin, v_biq, v_ald, v_tb, w_al, w_fd, v_cond, v_call, v_pi, w_an, v_ai, v_aq, v_cmp, v_cm0, w_cb, v_nt, v_and, v_or, w_sk, w_bk, w_cn, w_rv, v_rt, v_sq, v_se, v_ex, v_as, v_az, v_ao, v_pf, v_pz, v_fo, v_if, v_sw, v_lw, v_fl, v_cy, v_cyd, w_lr, wl_some, k_sq0, k_sq1, k_sq2, k_sq3, k_se, k_ex, k_rt, k_l, k_b2, k_b1, k_q2, k_q1, k_ald, k_tb, k_pi, k_condT, k_condF, k_condK, k_call, k_ac, k_ai, k_aq, k_c2, k_c1, k_c0, k_nt, k_andT, k_andF, k_orT, k_orF, k_as2, k_as1, k_az2, k_az1, k_ao2, k_ao1, k_pf, k_pz, k_fo, k_ifT, k_ifF, k_br0, k_br1, k_br2, k_br3, k_s0, k_s1, k_t1, k_s4, k_t4, k_s20, k_t20, zpk_n, zpk_z, zpk_s, k_lw, k_fl, k_cy3, k_cy2, k_cy1, k_cd2, k_cd1, k_w3, k_w20, k_w21, k_w22, k_w23, k_w1T, k_w1F, k_fi, k_fz1, k_fz0, k_fzi, k_fz, k_fv0, k_fv3, k_I, k_B0, k_B1, k_B2, k_B3, k_C, k_E, zenv, zup, ze0, n_add, n_mul, m_st, m_sa, m_ne, m_ss, mm_s, mm_f, mm_ne, mm_ss, mm_sf, Nat.zero_add, u_at, u_ne, if_true, if_false, ite_true, ite_false, reduceIte, and_self, and_true, true_and, or_true, true_or, or_false, false_or, or_self, and_false, false_and, Bool.not_true, Bool.not_false, decide_true, decide_false, ne_eq, n_eqT, n_eqF, n_ltT, n_ltF, n_leT, n_leF, n_z0, n_zF, n_o1, n_oF, n_p0, n_pF, n_lt0, n_ge0, zeq, zne, zlt, zle, zge, zgt, ziadd, zisub, zimul, ziand, zior, zixor, zishl, zishr, ziushr, zidiv, zirem, zmax, zmin, Bool.false_eq_true, not_true_eq_false, not_false_eq_true, Nat.reduceEqDiff, Nat.reduceAdd, Nat.reduceMul, Nat.reduceSub, k2]
    rcases k4 with ⟨q1, q2⟩ | ⟨q1, o, q2, q3, q4⟩
    · refine ⟨c', s', f', 0, g1, g2, W', hfr, by omega, q1, ovS_eq fun u hu => ?_⟩
      by_cases e : u = ch
      · rw [e]; exact q2
      · exact k5 u hu e
    · exact ⟨c', s', f', 1, g1, g2, W', hfr, by omega, q1, ovS_s h3 k5 q2 q3 q4⟩
  · unfold psb at hp
    rw [if_neg h3] at hp
    obtain ⟨c', s', k1, k2, W', k3⟩ := W.come (t := ch - 3) C (by omega) hp
    refine ⟨c', s', upd f 4 (nI 0), 0, fun Q => ?_, fun Q => ?_, W', fun j h4 h5 => u_ne h4, by omega, u_eq, ovS_eq k3⟩
    · refine wr_fn ?_ Q
      simp only [M_X5_choose, B_X5_choose]
      simp -implicitDefEqProofs (disch := omega) only [zA0_ap, zA1_ap, zA2_ap, zA3_ap, zA4_ap, zA5_ap, v_fi, v_fz, v_fv, w_k, v_l, v_bin, v_biq, v_ald, v_tb, w_al, w_fd, v_cond, v_call, v_pi, w_an, v_ai, v_aq, v_cmp, v_cm0, w_cb, v_nt, v_and, v_or, w_sk, w_bk, w_cn, w_rv, v_rt, v_sq, v_se, v_ex, v_as, v_az, v_ao, v_pf, v_pz, v_fo, v_if, v_sw, v_lw, v_fl, v_cy, v_cyd, w_lr, wl_some, k_sq0, k_sq1, k_sq2, k_sq3, k_se, k_ex, k_rt, k_l, k_b2, k_b1, k_q2, k_q1, k_ald, k_tb, k_pi, k_condT, k_condF, k_condK, k_call, k_ac, k_ai, k_aq, k_c2, k_c1, k_c0, k_nt, k_andT, k_andF, k_orT, k_orF, k_as2, k_as1, k_az2, k_az1, k_ao2, k_ao1, k_pf, k_pz, k_fo, k_ifT, k_ifF, k_br0, k_br1, k_br2, k_br3, k_s0, k_s1, k_t1, k_s4, k_t4, k_s20, k_t20, zpk_n, zpk_z, zpk_s, k_lw, k_fl, k_cy3, k_cy2, k_cy1, k_cd2, k_cd1, k_w3, k_w20, k_w21, k_w22, k_w23, k_w1T, k_w1F, k_fi, k_fz1, k_fz0, k_fzi, k_fz, k_fv0, k_fv3, k_I, k_B0, k_B1, k_B2, k_B3, k_C, k_E, zenv, zup, ze0, n_add, n_mul, m_st, m_sa, m_ne, m_ss, mm_s, mm_f, mm_ne, mm_ss, mm_sf, Nat.zero_add, u_at, u_ne, if_true, if_false, ite_true, ite_false, reduceIte, and_self, and_true, true_and, or_true, true_or, or_false, false_or, or_self, and_false, false_and, Bool.not_true, Bool.not_false, decide_true, decide_false, ne_eq, n_eqT, n_eqF, n_ltT, n_ltF, n_leT, n_leF, n_z0, n_zF, n_o1, n_oF, n_p0, n_pF, n_lt0, n_ge0, zeq, zne, zlt, zle, zge, zgt, ziadd, zisub, zimul, ziand, zior, zixor, zishl, zishr, ziushr, zidiv, zirem, zmax, zmin, Bool.false_eq_true, not_true_eq_false, not_false_eq_true, Nat.reduceEqDiff, Nat.reduceAdd, Nat.reduceMul, Nat.reduceSub, n_sub, e_ofThread, show 46 + (ch - 3) * 18 = 46 + 18 * (ch - 3) by omega, k1]
    · refine wr_fn ?_ Q
      simp only [M_X9_chooses, B_X9_chooses]
      simp -implicitDefEqProofs (disch := omega) only [zA0_ap, zA1_ap, zA2_ap, zA3_ap, zA4_ap, zA5_ap, v_fi, v_fz, v_fv, w_k, v_l, v_bin, v_biq, v_ald, v_tb, w_al, w_fd, v_cond, v_call, v_pi, w_an, v_ai, v_aq, v_cmp, v_cm0, w_cb, v_nt, v_and, v_or, w_sk, w_bk, w_cn, w_rv, v_rt, v_sq, v_se, v_ex, v_as, v_az, v_ao, v_pf, v_pz, v_fo, v_if, v_sw, v_lw, v_fl, v_cy, v_cyd, w_lr, wl_some, k_sq0, k_sq1, k_sq2, k_sq3, k_se, k_ex, k_rt, k_l, k_b2, k_b1, k_q2, k_q1, k_ald, k_tb, k_pi, k_condT, k_condF, k_condK, k_call, k_ac, k_ai, k_aq, k_c2, k_c1, k_c0, k_nt, k_andT, k_andF, k_orT, k_orF, k_as2, k_as1, k_az2, k_az1, k_ao2, k_ao1, k_pf, k_pz, k_fo, k_ifT, k_ifF, k_br0, k_br1, k_br2, k_br3, k_s0, k_s1, k_t1, k_s4, k_t4, k_s20, k_t20, zpk_n, zpk_z, zpk_s, k_lw, k_fl, k_cy3, k_cy2, k_cy1, k_cd2, k_cd1, k_w3, k_w20, k_w21, k_w22, k_w23, k_w1T, k_w1F, k_fi, k_fz1, k_fz0, k_fzi, k_fz, k_fv0, k_fv3, k_I, k_B0, k_B1, k_B2, k_B3, k_C, k_E, zenv, zup, ze0, n_add, n_mul, m_st, m_sa, m_ne, m_ss, mm_s, mm_f, mm_ne, mm_ss, mm_sf, Nat.zero_add, u_at, u_ne, if_true, if_false, ite_true, ite_false, reduceIte, and_self, and_true, true_and, or_true, true_or, or_false, false_or, or_self, and_false, false_and, Bool.not_true, Bool.not_false, decide_true, decide_false, ne_eq, n_eqT, n_eqF, n_ltT, n_ltF, n_leT, n_leF, n_z0, n_zF, n_o1, n_oF, n_p0, n_pF, n_lt0, n_ge0, zeq, zne, zlt, zle, zge, zgt, ziadd, zisub, zimul, ziand, zior, zixor, zishl, zishr, ziushr, zidiv, zirem, zmax, zmin, Bool.false_eq_true, not_true_eq_false, not_false_eq_true, Nat.reduceEqDiff, Nat.reduceAdd, Nat.reduceMul, Nat.reduceSub, n_sub, k2]
end CHO
