/-! EXPLORATIONS: the class keeps a state -/
section KEP
variable {E m k n i p d : Nat} {μ ν μ' ν' : zM} {c s f c' s' f' P R R' : Nat → Int32} {v w u : Int32} {ρ : zE} {Q : Int32 → zM → Prop}
theorem cp_at {f g : Nat → Int32} {a b n k : Nat} (h1 : b ≤ k) (h2 : k < b + n) : va_cpy f g a b n k = f (a + (k - b)) := by
  unfold va_cpy
  rw [if_pos ⟨h1, h2⟩]
theorem cp_no {f g : Nat → Int32} {a b n k : Nat} (h : k < b ∨ b + n ≤ k) : va_cpy f g a b n k = g k := by
  unfold va_cpy
  rw [if_neg (by omega)]
def cz (P : Nat → Int32) : Nat → Nat
  | 0 => 0
  | k + 1 => cz P k + (if P k = nI 0 then 0 else 1)
theorem cz_all : ∀ k, (∀ z, z < k → ¬ P z = nI 0) → cz P k = k
  | 0, _ => rfl
  | k + 1, h => by rw [cz, if_neg (h k (by omega)), cz_all k (fun z hz => h z (by omega))]
theorem cz_zero (h : cz P 4096 < 4096) : ∃ z, z < 4096 ∧ P z = nI 0 := by
  refine Classical.byContradiction fun q => ?_
  have := cz_all (P := P) 4096 fun z hz e => q ⟨z, hz, e⟩
  omega
theorem cz_upd (hv : ¬ v = nI 0) (h0 : P p = nI 0) : ∀ k, cz (upd P p v) k = cz P k + (if p < k then 1 else 0)
  | 0 => rfl
  | k + 1 => by
    rw [cz, cz, cz_upd hv h0 k]
    by_cases e : k = p
    · subst e
      rw [u_at rfl, if_neg hv, h0, if_pos rfl, if_neg (by omega), if_pos (by omega)]
    · rw [u_ne e]
      by_cases h : p < k
      · have a1 : (if p < k then 1 else 0 : Nat) = 1 := if_pos h
        have a2 : (if p < k + 1 then 1 else 0 : Nat) = 1 := if_pos (by omega)
        rw [a1, a2]; omega
      · have a1 : (if p < k then 1 else 0 : Nat) = 0 := if_neg h
        have a2 : (if p < k + 1 then 1 else 0 : Nat) = 0 := if_neg (by omega)
        rw [a1, a2]; omega
def HCl (P R : Nat → Int32) (n : Nat) : Prop := (∀ p, p < 4096 → P p = nI 0 ∨ ∃ i, i < n ∧ P p = nI (i + 1)) ∧ cz P 4096 = n ∧ ∀ i, i < n → ∃ d, d < 4096 ∧ P ((hpC (rowC R i) + d) % 4096) = nI (i + 1) ∧ ∀ e, e < d → ¬ P ((hpC (rowC R i) + e) % 4096) = nI 0
theorem HCl.add (H : HCl P R n) (n4 : n ≤ 1500) (hd : d < 4096) (h0 : P ((hpC c + d) % 4096) = nI 0) (he : ∀ e, e < d → ¬ P ((hpC c + e) % 4096) = nI 0) (hR : ∀ i, i < n → rowC R' i = rowC R i) (hc : eq100 (rowC R' n) c) : HCl (upd P ((hpC c + d) % 4096) (nI (n + 1))) R' (n + 1) := by
  obtain ⟨h1, h2, h3⟩ := H
  have nz : ∀ j, j ≤ 1500 → ¬ nI (j + 1) = nI 0 := fun j hj q => by have := (n_eq (by omega) (by omega)).mp q; omega
  have hp4 : (hpC c + d) % 4096 < 4096 := Nat.mod_lt _ (by omega)
  refine ⟨fun p hp => ?_, ?_, fun i hi => ?_⟩
  · by_cases e : p = (hpC c + d) % 4096
    · exact Or.inr ⟨n, by omega, u_at e⟩
    · rw [u_ne e]
      rcases h1 p hp with h | ⟨i, hi, h⟩
      · exact Or.inl h
      · exact Or.inr ⟨i, by omega, h⟩
  · rw [cz_upd (nz n n4) h0, if_pos hp4, h2]
  · by_cases e : i = n
    · subst e
      refine ⟨d, hd, ?_, fun e he' => ?_⟩
      · rw [hpC_eq hc, u_at rfl]
      · rw [hpC_eq hc]
        by_cases e2 : (hpC c + e) % 4096 = (hpC c + d) % 4096
        · rw [u_at e2]; exact nz i n4
        · rw [u_ne e2]; exact he e he'
    · obtain ⟨d', g1, g2, g3⟩ := h3 i (by omega)
      rw [hR i (by omega)]
      refine ⟨d', g1, ?_, fun e he' => ?_⟩
      · rw [u_ne, g2]
        intro q
        rw [q, h0] at g2
        exact nz i (by omega) g2.symm
      · by_cases e2 : (hpC (rowC R i) + e) % 4096 = (hpC c + d) % 4096
        · rw [u_at e2]; exact nz n n4
        · rw [u_ne e2]; exact g3 e he'
theorem row_old (hi : i < n) : rowC (va_cpy c R 0 (n * 100) 100) i = rowC R i := by
  funext j
  unfold rowC
  by_cases h : j < 100
  · rw [if_pos h, if_pos h, cp_no (by omega)]
  · rw [if_neg h, if_neg h]
theorem row_new : eq100 (rowC (va_cpy c R 0 (n * 100) 100) n) c := by
  intro j hj
  unfold rowC
  rw [if_pos hj, cp_at (by omega) (by omega), show 0 + (n * 100 + j - n * 100) = j by omega]
theorem wr_ex {o : Option (Int32 × zM)} {v : Int32} {P : zM → Prop} (h : wr o (fun r m => r = v ∧ P m)) : ∃ m, (∀ Q, wr o Q = Q v m) ∧ P m := by
  obtain ⟨r, m, e, rfl, hP⟩ := wr_get h
  exact ⟨m, fun Q => by rw [e]; rfl, hP⟩
theorem e_keepN1 (H : HCl (μ (E + 16)) (μ (E + 10)) n) (hn : n < 1500) (h11 : μ E 11 = nI n) (hp : p < 1500) (ch : Int32) (hch : ch = -4) (hd : d < 4096) (e1' : ∀ Q, wr (M_X1_findPlace E [] μ) Q = Q (nI ((hpC (μ (E + 1 + 8)) + d) % 4096)) μ) (h0 : μ (E + 16) ((hpC (μ (E + 1 + 8)) + d) % 4096) = nI 0) (he : ∀ e, e < d → ¬ μ (E + 16) ((hpC (μ (E + 1 + 8)) + e) % 4096) = nI 0) : ∃ μ', (∀ Q, wr (M_X1_keep E [nI p, ch] μ) Q = Q (nI n) μ') ∧ (∀ a, a ≠ E → a ≠ E + 10 → a ≠ E + 12 → a ≠ E + 13 → a ≠ E + 14 → a ≠ E + 16 → μ' a = μ a) ∧ μ' E = upd (μ E) 11 (nI (n + 1)) ∧ μ' (E + 10) = va_cpy (μ (E + 1 + 8)) (μ (E + 10)) 0 (n * 100) 100 ∧ μ' (E + 12) = upd (μ (E + 12)) n (nI p) ∧ μ' (E + 13) = upd (μ (E + 13)) n ch ∧ μ' (E + 14) = upd (μ (E + 14)) n (if ch = -4 then nI 0 else μ (E + 14) p + nI 1) ∧ HCl (μ' (E + 16)) (μ' (E + 10)) (n + 1) := by
  have hl : (hpC (μ (E + 1 + 8)) + d) % 4096 < 4096 := Nat.mod_lt _ (by omega)
  apply wr_ex
  simp only [M_X1_keep, B_X1_keep]
  simp -implicitDefEqProofs (disch := omega) only [zA0_ap, zA1_ap, zA2_ap, zA3_ap, zA4_ap, zA5_ap, v_fi, v_fz, v_fv, w_k, v_l, v_bin, v_biq, v_ald, v_tb, w_al, w_fd, v_cond, v_call, v_pi, w_an, v_ai, v_aq, v_cmp, v_cm0, w_cb, v_nt, v_and, v_or, w_sk, w_bk, w_cn, w_rv, v_rt, v_sq, v_se, v_ex, v_as, v_az, v_ao, v_pf, v_pz, v_fo, v_if, v_sw, v_lw, v_fl, v_cy, v_cyd, w_lr, wl_some, k_sq0, k_sq1, k_sq2, k_sq3, k_se, k_ex, k_rt, k_l, k_b2, k_b1, k_q2, k_q1, k_ald, k_tb, k_pi, k_condT, k_condF, k_condK, k_call, k_ac, k_ai, k_aq, k_c2, k_c1, k_c0, k_nt, k_andT, k_andF, k_orT, k_orF, k_as2, k_as1, k_az2, k_az1, k_ao2, k_ao1, k_pf, k_pz, k_fo, k_ifT, k_ifF, k_br0, k_br1, k_br2, k_br3, k_s0, k_s1, k_t1, k_s4, k_t4, k_s20, k_t20, zpk_n, zpk_z, zpk_s, k_lw, k_fl, k_cy3, k_cy2, k_cy1, k_cd2, k_cd1, k_w3, k_w20, k_w21, k_w22, k_w23, k_w1T, k_w1F, k_fi, k_fz1, k_fz0, k_fzi, k_fz, k_fv0, k_fv3, k_I, k_B0, k_B1, k_B2, k_B3, k_C, k_E, zenv, zup, ze0, n_add, n_mul, m_st, m_sa, m_ne, m_ss, mm_s, mm_f, mm_ne, mm_ss, mm_sf, Nat.zero_add, u_at, u_ne, if_true, if_false, ite_true, ite_false, reduceIte, and_self, and_true, true_and, or_true, true_or, or_false, false_or, or_self, and_false, false_and, Bool.not_true, Bool.not_false, decide_true, decide_false, ne_eq, n_eqT, n_eqF, n_ltT, n_ltF, n_leT, n_leF, n_z0, n_zF, n_o1, n_oF, n_p0, n_pF, n_lt0, n_ge0, zeq, zne, zlt, zle, zge, zgt, ziadd, zisub, zimul, ziand, zior, zixor, zishl, zishr, ziushr, zidiv, zirem, zmax, zmin, Bool.false_eq_true, not_true_eq_false, not_false_eq_true, Nat.reduceEqDiff, Nat.reduceAdd, Nat.reduceMul, Nat.reduceSub, e1', h0, h11, n_sub, Nat.add_sub_cancel, hch]
  exact ⟨fun a h1 h2 h3 h4 h5 h6 => by simp (disch := omega) only [m_ne], H.add (by omega) hd h0 he (fun i hi => row_old hi) row_new⟩
theorem e_keepN2 (H : HCl (μ (E + 16)) (μ (E + 10)) n) (hn : n < 1500) (h11 : μ E 11 = nI n) (hp : p < 1500) (ch : Int32) (hch : ¬ ch = -4) (hd : d < 4096) (e1' : ∀ Q, wr (M_X1_findPlace E [] μ) Q = Q (nI ((hpC (μ (E + 1 + 8)) + d) % 4096)) μ) (h0 : μ (E + 16) ((hpC (μ (E + 1 + 8)) + d) % 4096) = nI 0) (he : ∀ e, e < d → ¬ μ (E + 16) ((hpC (μ (E + 1 + 8)) + e) % 4096) = nI 0) : ∃ μ', (∀ Q, wr (M_X1_keep E [nI p, ch] μ) Q = Q (nI n) μ') ∧ (∀ a, a ≠ E → a ≠ E + 10 → a ≠ E + 12 → a ≠ E + 13 → a ≠ E + 14 → a ≠ E + 16 → μ' a = μ a) ∧ μ' E = upd (μ E) 11 (nI (n + 1)) ∧ μ' (E + 10) = va_cpy (μ (E + 1 + 8)) (μ (E + 10)) 0 (n * 100) 100 ∧ μ' (E + 12) = upd (μ (E + 12)) n (nI p) ∧ μ' (E + 13) = upd (μ (E + 13)) n ch ∧ μ' (E + 14) = upd (μ (E + 14)) n (if ch = -4 then nI 0 else μ (E + 14) p + nI 1) ∧ HCl (μ' (E + 16)) (μ' (E + 10)) (n + 1) := by
  have hl : (hpC (μ (E + 1 + 8)) + d) % 4096 < 4096 := Nat.mod_lt _ (by omega)
  apply wr_ex
  simp only [M_X1_keep, B_X1_keep]
  simp -implicitDefEqProofs (disch := omega) only [zA0_ap, zA1_ap, zA2_ap, zA3_ap, zA4_ap, zA5_ap, v_fi, v_fz, v_fv, w_k, v_l, v_bin, v_biq, v_ald, v_tb, w_al, w_fd, v_cond, v_call, v_pi, w_an, v_ai, v_aq, v_cmp, v_cm0, w_cb, v_nt, v_and, v_or, w_sk, w_bk, w_cn, w_rv, v_rt, v_sq, v_se, v_ex, v_as, v_az, v_ao, v_pf, v_pz, v_fo, v_if, v_sw, v_lw, v_fl, v_cy, v_cyd, w_lr, wl_some, k_sq0, k_sq1, k_sq2, k_sq3, k_se, k_ex, k_rt, k_l, k_b2, k_b1, k_q2, k_q1, k_ald, k_tb, k_pi, k_condT, k_condF, k_condK, k_call, k_ac, k_ai, k_aq, k_c2, k_c1, k_c0, k_nt, k_andT, k_andF, k_orT, k_orF, k_as2, k_as1, k_az2, k_az1, k_ao2, k_ao1, k_pf, k_pz, k_fo, k_ifT, k_ifF, k_br0, k_br1, k_br2, k_br3, k_s0, k_s1, k_t1, k_s4, k_t4, k_s20, k_t20, zpk_n, zpk_z, zpk_s, k_lw, k_fl, k_cy3, k_cy2, k_cy1, k_cd2, k_cd1, k_w3, k_w20, k_w21, k_w22, k_w23, k_w1T, k_w1F, k_fi, k_fz1, k_fz0, k_fzi, k_fz, k_fv0, k_fv3, k_I, k_B0, k_B1, k_B2, k_B3, k_C, k_E, zenv, zup, ze0, n_add, n_mul, m_st, m_sa, m_ne, m_ss, mm_s, mm_f, mm_ne, mm_ss, mm_sf, Nat.zero_add, u_at, u_ne, if_true, if_false, ite_true, ite_false, reduceIte, and_self, and_true, true_and, or_true, true_or, or_false, false_or, or_self, and_false, false_and, Bool.not_true, Bool.not_false, decide_true, decide_false, ne_eq, n_eqT, n_eqF, n_ltT, n_ltF, n_leT, n_leF, n_z0, n_zF, n_o1, n_oF, n_p0, n_pF, n_lt0, n_ge0, zeq, zne, zlt, zle, zge, zgt, ziadd, zisub, zimul, ziand, zior, zixor, zishl, zishr, ziushr, zidiv, zirem, zmax, zmin, Bool.false_eq_true, not_true_eq_false, not_false_eq_true, Nat.reduceEqDiff, Nat.reduceAdd, Nat.reduceMul, Nat.reduceSub, e1', h0, h11, n_sub, Nat.add_sub_cancel, hch]
  exact ⟨fun a h1 h2 h3 h4 h5 h6 => by simp (disch := omega) only [m_ne], H.add (by omega) hd h0 he (fun i hi => row_old hi) row_new⟩
theorem e_keep (H : HCl (μ (E + 16)) (μ (E + 10)) n) (hn : n ≤ 1500) (h11 : μ E 11 = nI n) (hp : p < 1500) {ch : Int32} : (∃ t, t < n ∧ eq100 (rowC (μ (E + 10)) t) (μ (E + 1 + 8)) ∧ ∀ Q, wr (M_X1_keep E [nI p, ch] μ) Q = Q (nI t) μ) ∨ ((∀ t, t < n → ¬ eq100 (rowC (μ (E + 10)) t) (μ (E + 1 + 8))) ∧ ((n = 1500 ∧ ∀ Q, wr (M_X1_keep E [nI p, ch] μ) Q = Q (-4) (zsa μ E (upd (μ E) 10 (nI 1)))) ∨ (n < 1500 ∧ ∃ μ', (∀ Q, wr (M_X1_keep E [nI p, ch] μ) Q = Q (nI n) μ') ∧ (∀ a, a ≠ E → a ≠ E + 10 → a ≠ E + 12 → a ≠ E + 13 → a ≠ E + 14 → a ≠ E + 16 → μ' a = μ a) ∧ μ' E = upd (μ E) 11 (nI (n + 1)) ∧ μ' (E + 10) = va_cpy (μ (E + 1 + 8)) (μ (E + 10)) 0 (n * 100) 100 ∧ μ' (E + 12) = upd (μ (E + 12)) n (nI p) ∧ μ' (E + 13) = upd (μ (E + 13)) n ch ∧ μ' (E + 14) = upd (μ (E + 14)) n (if ch = -4 then nI 0 else μ (E + 14) p + nI 1) ∧ HCl (μ' (E + 16)) (μ' (E + 10)) (n + 1)))) := by
  have nz : ∀ j, j ≤ 1500 → ¬ nI (j + 1) = nI 0 := fun j hj q => by have := (n_eq (by omega) (by omega)).mp q; omega
  obtain ⟨r, m', e1, rfl, d, hd, rfl, he, hend⟩ := wr_get (e_place H.1 hn (cz_zero (by rw [H.2.1]; omega)))
  have e1' : ∀ Q, wr (M_X1_findPlace E [] m') Q = Q (nI ((hpC (m' (E + 1 + 8)) + d) % 4096)) m' := fun Q => by rw [e1]; rfl
  have hl : (hpC (m' (E + 1 + 8)) + d) % 4096 < 4096 := Nat.mod_lt _ (by omega)
  rcases hend with h0 | ⟨t, ht, h0, hs⟩
  · refine Or.inr ⟨fun t ht hs => ?_, ?_⟩
    · obtain ⟨d', g1, g2, g3⟩ := H.2.2 t ht
      rw [hpC_eq hs] at g2 g3
      by_cases e : d' < d
      · obtain ⟨i, hi, g4, g5⟩ := he d' e
        rw [g2] at g4
        have := (n_eq (by omega) (by omega)).mp g4
        obtain rfl : i = t := by omega
        exact g5 hs
      · by_cases e2 : d' = d
        · subst e2
          rw [h0] at g2
          exact nz t (by omega) g2.symm
        · exact g3 d (by omega) h0
    · by_cases hn5 : n = 1500
      · refine Or.inl ⟨hn5, fun Q => ?_⟩
        simp only [M_X1_keep, B_X1_keep]
        simp -implicitDefEqProofs (disch := omega) only [zA0_ap, zA1_ap, zA2_ap, zA3_ap, zA4_ap, zA5_ap, v_fi, v_fz, v_fv, w_k, v_l, v_bin, v_biq, v_ald, v_tb, w_al, w_fd, v_cond, v_call, v_pi, w_an, v_ai, v_aq, v_cmp, v_cm0, w_cb, v_nt, v_and, v_or, w_sk, w_bk, w_cn, w_rv, v_rt, v_sq, v_se, v_ex, v_as, v_az, v_ao, v_pf, v_pz, v_fo, v_if, v_sw, v_lw, v_fl, v_cy, v_cyd, w_lr, wl_some, k_sq0, k_sq1, k_sq2, k_sq3, k_se, k_ex, k_rt, k_l, k_b2, k_b1, k_q2, k_q1, k_ald, k_tb, k_pi, k_condT, k_condF, k_condK, k_call, k_ac, k_ai, k_aq, k_c2, k_c1, k_c0, k_nt, k_andT, k_andF, k_orT, k_orF, k_as2, k_as1, k_az2, k_az1, k_ao2, k_ao1, k_pf, k_pz, k_fo, k_ifT, k_ifF, k_br0, k_br1, k_br2, k_br3, k_s0, k_s1, k_t1, k_s4, k_t4, k_s20, k_t20, zpk_n, zpk_z, zpk_s, k_lw, k_fl, k_cy3, k_cy2, k_cy1, k_cd2, k_cd1, k_w3, k_w20, k_w21, k_w22, k_w23, k_w1T, k_w1F, k_fi, k_fz1, k_fz0, k_fzi, k_fz, k_fv0, k_fv3, k_I, k_B0, k_B1, k_B2, k_B3, k_C, k_E, zenv, zup, ze0, n_add, n_mul, m_st, m_sa, m_ne, m_ss, mm_s, mm_f, mm_ne, mm_ss, mm_sf, Nat.zero_add, u_at, u_ne, if_true, if_false, ite_true, ite_false, reduceIte, and_self, and_true, true_and, or_true, true_or, or_false, false_or, or_self, and_false, false_and, Bool.not_true, Bool.not_false, decide_true, decide_false, ne_eq, n_eqT, n_eqF, n_ltT, n_ltF, n_leT, n_leF, n_z0, n_zF, n_o1, n_oF, n_p0, n_pF, n_lt0, n_ge0, zeq, zne, zlt, zle, zge, zgt, ziadd, zisub, zimul, ziand, zior, zixor, zishl, zishr, ziushr, zidiv, zirem, zmax, zmin, Bool.false_eq_true, not_true_eq_false, not_false_eq_true, Nat.reduceEqDiff, Nat.reduceAdd, Nat.reduceMul, Nat.reduceSub, e1', h0, h11, hn5]
      · refine Or.inr ⟨by omega, ?_⟩
        have g5 : n < 1500 := by omega
        have g6 : ∀ e, e < d → ¬ m' (E + 16) ((hpC (m' (E + 1 + 8)) + e) % 4096) = nI 0 := fun e h => by obtain ⟨i, hi, g, -⟩ := he e h; rw [g]; exact nz i (by omega)
        by_cases hch : ch = -4
        · exact e_keepN1 H g5 h11 hp ch hch hd e1' h0 g6
        · exact e_keepN2 H g5 h11 hp ch hch hd e1' h0 g6
  · refine Or.inl ⟨t, ht, hs, fun Q => ?_⟩
    simp only [M_X1_keep, B_X1_keep]
    simp -implicitDefEqProofs (disch := omega) only [zA0_ap, zA1_ap, zA2_ap, zA3_ap, zA4_ap, zA5_ap, v_fi, v_fz, v_fv, w_k, v_l, v_bin, v_biq, v_ald, v_tb, w_al, w_fd, v_cond, v_call, v_pi, w_an, v_ai, v_aq, v_cmp, v_cm0, w_cb, v_nt, v_and, v_or, w_sk, w_bk, w_cn, w_rv, v_rt, v_sq, v_se, v_ex, v_as, v_az, v_ao, v_pf, v_pz, v_fo, v_if, v_sw, v_lw, v_fl, v_cy, v_cyd, w_lr, wl_some, k_sq0, k_sq1, k_sq2, k_sq3, k_se, k_ex, k_rt, k_l, k_b2, k_b1, k_q2, k_q1, k_ald, k_tb, k_pi, k_condT, k_condF, k_condK, k_call, k_ac, k_ai, k_aq, k_c2, k_c1, k_c0, k_nt, k_andT, k_andF, k_orT, k_orF, k_as2, k_as1, k_az2, k_az1, k_ao2, k_ao1, k_pf, k_pz, k_fo, k_ifT, k_ifF, k_br0, k_br1, k_br2, k_br3, k_s0, k_s1, k_t1, k_s4, k_t4, k_s20, k_t20, zpk_n, zpk_z, zpk_s, k_lw, k_fl, k_cy3, k_cy2, k_cy1, k_cd2, k_cd1, k_w3, k_w20, k_w21, k_w22, k_w23, k_w1T, k_w1F, k_fi, k_fz1, k_fz0, k_fzi, k_fz, k_fv0, k_fv3, k_I, k_B0, k_B1, k_B2, k_B3, k_C, k_E, zenv, zup, ze0, n_add, n_mul, m_st, m_sa, m_ne, m_ss, mm_s, mm_f, mm_ne, mm_ss, mm_sf, Nat.zero_add, u_at, u_ne, if_true, if_false, ite_true, ite_false, reduceIte, and_self, and_true, true_and, or_true, true_or, or_false, false_or, or_self, and_false, false_and, Bool.not_true, Bool.not_false, decide_true, decide_false, ne_eq, n_eqT, n_eqF, n_ltT, n_ltF, n_leT, n_leF, n_z0, n_zF, n_o1, n_oF, n_p0, n_pF, n_lt0, n_ge0, zeq, zne, zlt, zle, zge, zgt, ziadd, zisub, zimul, ziand, zior, zixor, zishl, zishr, ziushr, zidiv, zirem, zmax, zmin, Bool.false_eq_true, not_true_eq_false, not_false_eq_true, Nat.reduceEqDiff, Nat.reduceAdd, Nat.reduceMul, Nat.reduceSub, e1', h0, n_sub, Nat.add_sub_cancel]
theorem e_load (hi : i < 1500) : wr (M_X1_load E [nI i] μ) Q = Q 0 (zsa μ (E + 1 + 8) (va_cpy (μ (E + 10)) (μ (E + 1 + 8)) (i * 100) 0 100)) := by
  simp only [M_X1_load, B_X1_load]
  simp -implicitDefEqProofs (disch := omega) only [zA0_ap, zA1_ap, zA2_ap, zA3_ap, zA4_ap, zA5_ap, v_fi, v_fz, v_fv, w_k, v_l, v_bin, v_biq, v_ald, v_tb, w_al, w_fd, v_cond, v_call, v_pi, w_an, v_ai, v_aq, v_cmp, v_cm0, w_cb, v_nt, v_and, v_or, w_sk, w_bk, w_cn, w_rv, v_rt, v_sq, v_se, v_ex, v_as, v_az, v_ao, v_pf, v_pz, v_fo, v_if, v_sw, v_lw, v_fl, v_cy, v_cyd, w_lr, wl_some, k_sq0, k_sq1, k_sq2, k_sq3, k_se, k_ex, k_rt, k_l, k_b2, k_b1, k_q2, k_q1, k_ald, k_tb, k_pi, k_condT, k_condF, k_condK, k_call, k_ac, k_ai, k_aq, k_c2, k_c1, k_c0, k_nt, k_andT, k_andF, k_orT, k_orF, k_as2, k_as1, k_az2, k_az1, k_ao2, k_ao1, k_pf, k_pz, k_fo, k_ifT, k_ifF, k_br0, k_br1, k_br2, k_br3, k_s0, k_s1, k_t1, k_s4, k_t4, k_s20, k_t20, zpk_n, zpk_z, zpk_s, k_lw, k_fl, k_cy3, k_cy2, k_cy1, k_cd2, k_cd1, k_w3, k_w20, k_w21, k_w22, k_w23, k_w1T, k_w1F, k_fi, k_fz1, k_fz0, k_fzi, k_fz, k_fv0, k_fv3, k_I, k_B0, k_B1, k_B2, k_B3, k_C, k_E, zenv, zup, ze0, n_add, n_mul, m_st, m_sa, m_ne, m_ss, mm_s, mm_f, mm_ne, mm_ss, mm_sf, Nat.zero_add, u_at, u_ne, if_true, if_false, ite_true, ite_false, reduceIte, and_self, and_true, true_and, or_true, true_or, or_false, false_or, or_self, and_false, false_and, Bool.not_true, Bool.not_false, decide_true, decide_false, ne_eq, n_eqT, n_eqF, n_ltT, n_ltF, n_leT, n_leF, n_z0, n_zF, n_o1, n_oF, n_p0, n_pF, n_lt0, n_ge0, zeq, zne, zlt, zle, zge, zgt, ziadd, zisub, zimul, ziand, zior, zixor, zishl, zishr, ziushr, zidiv, zirem, zmax, zmin, Bool.false_eq_true, not_true_eq_false, not_false_eq_true, Nat.reduceEqDiff, Nat.reduceAdd, Nat.reduceMul, Nat.reduceSub]
theorem load_row : eq100 (va_cpy R c (i * 100) 0 100) (rowC R i) := by
  intro j hj
  unfold rowC
  rw [if_pos hj, cp_at (by omega) (by omega), show i * 100 + (j - 0) = i * 100 + j by omega]
theorem load_out {j : Nat} (hj : 100 ≤ j) : va_cpy R c (i * 100) 0 100 j = c j := cp_no (by omega)
end KEP
