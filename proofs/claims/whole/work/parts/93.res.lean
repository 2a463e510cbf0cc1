/-! EXPLORATIONS: the different results, in the class -/
section RES
variable {E J m k n i j K T t ch e q u : Nat} {μ ν μ' ν' : zM} {c s f c' s' P : Nat → Int32} {v : Int32}
/-- an end that agrees -/
def okR (μ : zM) (E i : Nat) : Prop := noS (rC μ E i) (cN μ (E + 1)) ∧ findP μ (E + 1) (rC μ E i)
def smA (μ : zM) (E i u : Nat) : Prop := ∀ q, q < 9 → rC μ E i (28 + q) = rC μ E u (28 + q)
def newA (μ : zM) (E i : Nat) : Prop := okR μ E i ∧ ∀ u, u < i → okR μ E u → ¬ smA μ E i u
noncomputable def cntA (μ : zM) (E : Nat) : Nat → Nat
  | 0 => 0
  | k + 1 => cntA μ E k + b01 (newA μ E k)
theorem smA_tr {a b c : Nat} (h : smA μ E a b) (g : smA μ E b c) : smA μ E a c := fun q hq => (h q hq).trans (g q hq)
theorem smA_sy {a b : Nat} (h : smA μ E a b) : smA μ E b a := fun q hq => (h q hq).symm
theorem newA_ex : ∀ u, okR μ E u → ∃ w, w ≤ u ∧ newA μ E w ∧ smA μ E u w := by
  intro u
  induction u using Nat.strongRecOn with
  | _ u ih =>
    intro hu
    by_cases h : newA μ E u
    · exact ⟨u, Nat.le_refl _, h, fun _ _ => rfl⟩
    · have : ∃ w, w < u ∧ okR μ E w ∧ smA μ E u w := by
        refine Classical.byContradiction fun q => h ⟨hu, fun w hw ho hs => q ⟨w, hw, ho, hs⟩⟩
      obtain ⟨w, hw, ho, hs⟩ := this
      obtain ⟨w', h1, h2, h3⟩ := ih w hw ho
      exact ⟨w', by omega, h2, smA_tr hs h3⟩
theorem okR_cg (hp : PrE E μ μ') (h10 : μ' (E + 10) = μ (E + 10)) : okR μ' E = okR μ E := by
  funext i
  unfold okR
  rw [rC_cg h10, cN_cg hp.p]
  exact propext (and_congr_right fun _ => findP_cg hp.p)
theorem newA_cg (hp : PrE E μ μ') (h10 : μ' (E + 10) = μ (E + 10)) : newA μ' E = newA μ E := by
  funext i
  unfold newA smA
  rw [okR_cg hp h10, rC_cg h10]
theorem cntA_cg (hp : PrE E μ μ') (h10 : μ' (E + 10) = μ (E + 10)) : ∀ k, cntA μ' E k = cntA μ E k
  | 0 => rfl
  | k + 1 => by rw [cntA, cntA, cntA_cg hp h10 k, newA_cg hp h10]
theorem cntA_le : ∀ k, cntA μ E k ≤ k
  | 0 => Nat.le_refl _
  | k + 1 => by
    have := cntA_le k
    have := b01_lt (P := newA μ E k)
    unfold cntA
    omega
theorem tr_3 : ∀ w x y z u : Nat, w < 7 → x < 2 → y < 2 → z < 2 → u < 2 → nI (16 * w + 8 * x + y + 2 * z + 4 * u) &&& nI 3 = nI (y + 2 * z) := by
  intro w x y z u hw hx hy hz hu
  rcases (show w = 0 ∨ w = 1 ∨ w = 2 ∨ w = 3 ∨ w = 4 ∨ w = 5 ∨ w = 6 by omega) with rfl | rfl | rfl | rfl | rfl | rfl | rfl <;> rcases (show x = 0 ∨ x = 1 by omega) with rfl | rfl <;> rcases (show y = 0 ∨ y = 1 by omega) with rfl | rfl <;> rcases (show z = 0 ∨ z = 1 by omega) with rfl | rfl <;> rcases (show u = 0 ∨ u = 1 by omega) with rfl | rfl <;> decide
theorem tr_ok (c : Nat → Int32) (b : Nat) : (nI (trN μ b c) &&& nI 3 = nI 1) ↔ (noS c (cN μ b) ∧ findP μ b c) := by
  unfold trN
  rw [tr_3 _ _ _ _ _ (by have := cWn_le c 6; omega) b01_lt b01_lt b01_lt b01_lt]
  by_cases h1 : noS c (cN μ b)
  · by_cases h2 : findP μ b c
    · rw [b01_T h1, b01_F (P := noS c (cN μ b) ∧ ¬ findP μ b c) (fun h => h.2 h2)]
      exact ⟨fun _ => ⟨h1, h2⟩, fun _ => rfl⟩
    · rw [b01_T h1, b01_T (P := noS c (cN μ b) ∧ ¬ findP μ b c) ⟨h1, h2⟩]
      exact ⟨fun q => absurd q (by decide), fun h => absurd h.2 h2⟩
  · rw [b01_F h1, b01_F (P := noS c (cN μ b) ∧ ¬ findP μ b c) (fun h => h1 h.1)]
    exact ⟨fun q => absurd q (by decide), fun h => absurd h.1 h1⟩
/-- hashes of answers -/
def hsA (c : Nat → Int32) : Nat → Int32
  | 0 => nI 0
  | k + 1 => hsA c k * nI 211 + c (28 + k)
theorem hsA_eq (h : ∀ q, q < 9 → c (28 + q) = c' (28 + q)) : ∀ k, k ≤ 9 → hsA c k = hsA c' k
  | 0, _ => rfl
  | k + 1, hk => by unfold hsA; rw [hsA_eq h k (by omega), h k (by omega)]
def hpA (c : Nat → Int32) : Nat := hp (hsA c 9 * (-1640531535))
theorem hpA_eq (h : smA μ E i u) : hpA (rC μ E i) = hpA (rC μ E u) := by unfold hpA; rw [hsA_eq h 9 (by omega)]
theorem rC_in (hq : q < 100) : rC μ E i q = μ (E + 10) (i * 100 + q) := by
  unfold rC rowC
  rw [if_pos hq]
theorem wr_ex3 {o : Option (Int32 × zM)} {M : zM} {P : Prop} (h : wr o (fun r m => tv r P ∧ m = M)) : ∀ Q, wr o Q = Q (nI (b01 P)) M := by
  obtain ⟨r, m, e, t, rfl⟩ := wr_get h
  intro Q
  rw [e, ← tv_b t]
  rfl
theorem e_hasSame (hi : i < 1500) (hk : k < 1500) : ∀ Q, wr (M_X1_hasSameAnswers E [nI i, nI (k * 100 + 28)] μ) Q = Q (nI (b01 (smA μ E i k))) μ := by
  apply wr_ex3
  simp only [M_X1_hasSameAnswers, B_X1_hasSameAnswers]
  simp -implicitDefEqProofs (disch := omega) only [zA0_ap, zA1_ap, zA2_ap, zA3_ap, zA4_ap, zA5_ap, v_fi, v_fz, v_fv, w_k, v_l, v_bin, v_biq, v_ald, v_tb, w_al, w_fd, v_cond, v_call, v_pi, w_an, v_ai, v_aq, v_cmp, v_cm0, w_cb, v_nt, v_and, v_or, w_sk, w_bk, w_cn, w_rv, v_rt, v_sq, v_se, v_ex, v_as, v_az, v_ao, v_pf, v_pz, v_fo, v_if, v_sw, v_lw, v_fl, v_cy, v_cyd, w_lr, wl_some, k_sq0, k_sq1, k_sq2, k_sq3, k_se, k_ex, k_rt, k_l, k_b2, k_b1, k_q2, k_q1, k_ald, k_tb, k_pi, k_condT, k_condF, k_condK, k_call, k_ac, k_ai, k_aq, k_c2, k_c1, k_c0, k_nt, k_andT, k_andF, k_orT, k_orF, k_as2, k_as1, k_az2, k_az1, k_ao2, k_ao1, k_pf, k_pz, k_fo, k_ifT, k_ifF, k_br0, k_br1, k_br2, k_br3, k_s0, k_s1, k_t1, k_s4, k_t4, k_s20, k_t20, zpk_n, zpk_z, zpk_s, k_lw, k_fl, k_cy3, k_cy2, k_cy1, k_cd2, k_cd1, k_w3, k_w20, k_w21, k_w22, k_w23, k_w1T, k_w1F, k_fi, k_fz1, k_fz0, k_fzi, k_fz, k_fv0, k_fv3, k_I, k_B0, k_B1, k_B2, k_B3, k_C, k_E, zenv, zup, ze0, n_add, n_mul, m_st, m_sa, m_ne, m_ss, mm_s, mm_f, mm_ne, mm_ss, mm_sf, Nat.zero_add, u_at, u_ne, if_true, if_false, ite_true, ite_false, reduceIte, and_self, and_true, true_and, or_true, true_or, or_false, false_or, or_self, and_false, false_and, Bool.not_true, Bool.not_false, decide_true, decide_false, ne_eq, n_eqT, n_eqF, n_ltT, n_ltF, n_leT, n_leF, n_z0, n_zF, n_o1, n_oF, n_p0, n_pF, n_lt0, n_ge0, zeq, zne, zlt, zle, zge, zgt, ziadd, zisub, zimul, ziand, zior, zixor, zishl, zishr, ziushr, zidiv, zirem, zmax, zmin, Bool.false_eq_true, not_true_eq_false, not_false_eq_true, Nat.reduceEqDiff, Nat.reduceAdd, Nat.reduceMul, Nat.reduceSub]
  apply v_for (fun q ρ m' => ρ 2 = some (nI (k * 100 + 28)) ∧ ρ 3 = some (nI (i * 100 + 28)) ∧ ρ 4 = some (nI q) ∧ m' = μ ∧ ∀ r, r < q → rC μ E i (28 + r) = rC μ E k (28 + r)) 9 (by omega)
  · rintro q ρ m' hq ⟨i2, i3, i4, rfl, h⟩
    have e1 : rC m' E i (28 + q) = m' (E + 10) (i * 100 + 28 + q) := by rw [rC_in (by omega), Nat.add_assoc]
    have e2 : rC m' E k (28 + q) = m' (E + 10) (k * 100 + 28 + q) := by rw [rC_in (by omega), Nat.add_assoc]
    by_cases e : m' (E + 10) (i * 100 + 28 + q) = m' (E + 10) (k * 100 + 28 + q)
    · simp -implicitDefEqProofs (disch := omega) only [zA0_ap, zA1_ap, zA2_ap, zA3_ap, zA4_ap, zA5_ap, v_fi, v_fz, v_fv, w_k, v_l, v_bin, v_biq, v_ald, v_tb, w_al, w_fd, v_cond, v_call, v_pi, w_an, v_ai, v_aq, v_cmp, v_cm0, w_cb, v_nt, v_and, v_or, w_sk, w_bk, w_cn, w_rv, v_rt, v_sq, v_se, v_ex, v_as, v_az, v_ao, v_pf, v_pz, v_fo, v_if, v_sw, v_lw, v_fl, v_cy, v_cyd, w_lr, wl_some, k_sq0, k_sq1, k_sq2, k_sq3, k_se, k_ex, k_rt, k_l, k_b2, k_b1, k_q2, k_q1, k_ald, k_tb, k_pi, k_condT, k_condF, k_condK, k_call, k_ac, k_ai, k_aq, k_c2, k_c1, k_c0, k_nt, k_andT, k_andF, k_orT, k_orF, k_as2, k_as1, k_az2, k_az1, k_ao2, k_ao1, k_pf, k_pz, k_fo, k_ifT, k_ifF, k_br0, k_br1, k_br2, k_br3, k_s0, k_s1, k_t1, k_s4, k_t4, k_s20, k_t20, zpk_n, zpk_z, zpk_s, k_lw, k_fl, k_cy3, k_cy2, k_cy1, k_cd2, k_cd1, k_w3, k_w20, k_w21, k_w22, k_w23, k_w1T, k_w1F, k_fi, k_fz1, k_fz0, k_fzi, k_fz, k_fv0, k_fv3, k_I, k_B0, k_B1, k_B2, k_B3, k_C, k_E, zenv, zup, ze0, n_add, n_mul, m_st, m_sa, m_ne, m_ss, mm_s, mm_f, mm_ne, mm_ss, mm_sf, Nat.zero_add, u_at, u_ne, if_true, if_false, ite_true, ite_false, reduceIte, and_self, and_true, true_and, or_true, true_or, or_false, false_or, or_self, and_false, false_and, Bool.not_true, Bool.not_false, decide_true, decide_false, ne_eq, n_eqT, n_eqF, n_ltT, n_ltF, n_leT, n_leF, n_z0, n_zF, n_o1, n_oF, n_p0, n_pF, n_lt0, n_ge0, zeq, zne, zlt, zle, zge, zgt, ziadd, zisub, zimul, ziand, zior, zixor, zishl, zishr, ziushr, zidiv, zirem, zmax, zmin, Bool.false_eq_true, not_true_eq_false, not_false_eq_true, Nat.reduceEqDiff, Nat.reduceAdd, Nat.reduceMul, Nat.reduceSub, i2, i3, i4, e]
      intro r hr
      by_cases er : r = q
      · rw [er, e1, e2, e]
      · exact h r (by omega)
    · simp -implicitDefEqProofs (disch := omega) only [zA0_ap, zA1_ap, zA2_ap, zA3_ap, zA4_ap, zA5_ap, v_fi, v_fz, v_fv, w_k, v_l, v_bin, v_biq, v_ald, v_tb, w_al, w_fd, v_cond, v_call, v_pi, w_an, v_ai, v_aq, v_cmp, v_cm0, w_cb, v_nt, v_and, v_or, w_sk, w_bk, w_cn, w_rv, v_rt, v_sq, v_se, v_ex, v_as, v_az, v_ao, v_pf, v_pz, v_fo, v_if, v_sw, v_lw, v_fl, v_cy, v_cyd, w_lr, wl_some, k_sq0, k_sq1, k_sq2, k_sq3, k_se, k_ex, k_rt, k_l, k_b2, k_b1, k_q2, k_q1, k_ald, k_tb, k_pi, k_condT, k_condF, k_condK, k_call, k_ac, k_ai, k_aq, k_c2, k_c1, k_c0, k_nt, k_andT, k_andF, k_orT, k_orF, k_as2, k_as1, k_az2, k_az1, k_ao2, k_ao1, k_pf, k_pz, k_fo, k_ifT, k_ifF, k_br0, k_br1, k_br2, k_br3, k_s0, k_s1, k_t1, k_s4, k_t4, k_s20, k_t20, zpk_n, zpk_z, zpk_s, k_lw, k_fl, k_cy3, k_cy2, k_cy1, k_cd2, k_cd1, k_w3, k_w20, k_w21, k_w22, k_w23, k_w1T, k_w1F, k_fi, k_fz1, k_fz0, k_fzi, k_fz, k_fv0, k_fv3, k_I, k_B0, k_B1, k_B2, k_B3, k_C, k_E, zenv, zup, ze0, n_add, n_mul, m_st, m_sa, m_ne, m_ss, mm_s, mm_f, mm_ne, mm_ss, mm_sf, Nat.zero_add, u_at, u_ne, if_true, if_false, ite_true, ite_false, reduceIte, and_self, and_true, true_and, or_true, true_or, or_false, false_or, or_self, and_false, false_and, Bool.not_true, Bool.not_false, decide_true, decide_false, ne_eq, n_eqT, n_eqF, n_ltT, n_ltF, n_leT, n_leF, n_z0, n_zF, n_o1, n_oF, n_p0, n_pF, n_lt0, n_ge0, zeq, zne, zlt, zle, zge, zgt, ziadd, zisub, zimul, ziand, zior, zixor, zishl, zishr, ziushr, zidiv, zirem, zmax, zmin, Bool.false_eq_true, not_true_eq_false, not_false_eq_true, Nat.reduceEqDiff, Nat.reduceAdd, Nat.reduceMul, Nat.reduceSub, i2, i3, i4, e]
      exact Or.inr ⟨rfl, fun z => e (by rw [← e1, ← e2]; exact z q hq)⟩
  · rintro ρ m' ⟨i2, i3, i4, rfl, h⟩
    simp -implicitDefEqProofs (disch := omega) only [zA0_ap, zA1_ap, zA2_ap, zA3_ap, zA4_ap, zA5_ap, v_fi, v_fz, v_fv, w_k, v_l, v_bin, v_biq, v_ald, v_tb, w_al, w_fd, v_cond, v_call, v_pi, w_an, v_ai, v_aq, v_cmp, v_cm0, w_cb, v_nt, v_and, v_or, w_sk, w_bk, w_cn, w_rv, v_rt, v_sq, v_se, v_ex, v_as, v_az, v_ao, v_pf, v_pz, v_fo, v_if, v_sw, v_lw, v_fl, v_cy, v_cyd, w_lr, wl_some, k_sq0, k_sq1, k_sq2, k_sq3, k_se, k_ex, k_rt, k_l, k_b2, k_b1, k_q2, k_q1, k_ald, k_tb, k_pi, k_condT, k_condF, k_condK, k_call, k_ac, k_ai, k_aq, k_c2, k_c1, k_c0, k_nt, k_andT, k_andF, k_orT, k_orF, k_as2, k_as1, k_az2, k_az1, k_ao2, k_ao1, k_pf, k_pz, k_fo, k_ifT, k_ifF, k_br0, k_br1, k_br2, k_br3, k_s0, k_s1, k_t1, k_s4, k_t4, k_s20, k_t20, zpk_n, zpk_z, zpk_s, k_lw, k_fl, k_cy3, k_cy2, k_cy1, k_cd2, k_cd1, k_w3, k_w20, k_w21, k_w22, k_w23, k_w1T, k_w1F, k_fi, k_fz1, k_fz0, k_fzi, k_fz, k_fv0, k_fv3, k_I, k_B0, k_B1, k_B2, k_B3, k_C, k_E, zenv, zup, ze0, n_add, n_mul, m_st, m_sa, m_ne, m_ss, mm_s, mm_f, mm_ne, mm_ss, mm_sf, Nat.zero_add, u_at, u_ne, if_true, if_false, ite_true, ite_false, reduceIte, and_self, and_true, true_and, or_true, true_or, or_false, false_or, or_self, and_false, false_and, Bool.not_true, Bool.not_false, decide_true, decide_false, ne_eq, n_eqT, n_eqF, n_ltT, n_ltF, n_leT, n_leF, n_z0, n_zF, n_o1, n_oF, n_p0, n_pF, n_lt0, n_ge0, zeq, zne, zlt, zle, zge, zgt, ziadd, zisub, zimul, ziand, zior, zixor, zishl, zishr, ziushr, zidiv, zirem, zmax, zmin, Bool.false_eq_true, not_true_eq_false, not_false_eq_true, Nat.reduceEqDiff, Nat.reduceAdd, Nat.reduceMul, Nat.reduceSub, i2, i3, i4]
    exact Or.inl ⟨rfl, h⟩
  · simp -implicitDefEqProofs (disch := omega) only [zA0_ap, zA1_ap, zA2_ap, zA3_ap, zA4_ap, zA5_ap, v_fi, v_fz, v_fv, w_k, v_l, v_bin, v_biq, v_ald, v_tb, w_al, w_fd, v_cond, v_call, v_pi, w_an, v_ai, v_aq, v_cmp, v_cm0, w_cb, v_nt, v_and, v_or, w_sk, w_bk, w_cn, w_rv, v_rt, v_sq, v_se, v_ex, v_as, v_az, v_ao, v_pf, v_pz, v_fo, v_if, v_sw, v_lw, v_fl, v_cy, v_cyd, w_lr, wl_some, k_sq0, k_sq1, k_sq2, k_sq3, k_se, k_ex, k_rt, k_l, k_b2, k_b1, k_q2, k_q1, k_ald, k_tb, k_pi, k_condT, k_condF, k_condK, k_call, k_ac, k_ai, k_aq, k_c2, k_c1, k_c0, k_nt, k_andT, k_andF, k_orT, k_orF, k_as2, k_as1, k_az2, k_az1, k_ao2, k_ao1, k_pf, k_pz, k_fo, k_ifT, k_ifF, k_br0, k_br1, k_br2, k_br3, k_s0, k_s1, k_t1, k_s4, k_t4, k_s20, k_t20, zpk_n, zpk_z, zpk_s, k_lw, k_fl, k_cy3, k_cy2, k_cy1, k_cd2, k_cd1, k_w3, k_w20, k_w21, k_w22, k_w23, k_w1T, k_w1F, k_fi, k_fz1, k_fz0, k_fzi, k_fz, k_fv0, k_fv3, k_I, k_B0, k_B1, k_B2, k_B3, k_C, k_E, zenv, zup, ze0, n_add, n_mul, m_st, m_sa, m_ne, m_ss, mm_s, mm_f, mm_ne, mm_ss, mm_sf, Nat.zero_add, u_at, u_ne, if_true, if_false, ite_true, ite_false, reduceIte, and_self, and_true, true_and, or_true, true_or, or_false, false_or, or_self, and_false, false_and, Bool.not_true, Bool.not_false, decide_true, decide_false, ne_eq, n_eqT, n_eqF, n_ltT, n_ltF, n_leT, n_leF, n_z0, n_zF, n_o1, n_oF, n_p0, n_pF, n_lt0, n_ge0, zeq, zne, zlt, zle, zge, zgt, ziadd, zisub, zimul, ziand, zior, zixor, zishl, zishr, ziushr, zidiv, zirem, zmax, zmin, Bool.false_eq_true, not_true_eq_false, not_false_eq_true, Nat.reduceEqDiff, Nat.reduceAdd, Nat.reduceMul, Nat.reduceSub]
    intro r hr
    omega
/-- the table of results, behind the first k states -/
def HRs (μ : zM) (E : Nat) (P : Nat → Int32) (k : Nat) : Prop := (∀ p, p < 4096 → P p = nI 0 ∨ ∃ i, i < k ∧ newA μ E i ∧ P p = nI (i + 1)) ∧ cz P 4096 = cntA μ E k ∧ ∀ i, i < k → newA μ E i → ∃ d, d < 4096 ∧ P ((hpA (rC μ E i) + d) % 4096) = nI (i + 1) ∧ ∀ e, e < d → ¬ P ((hpA (rC μ E i) + e) % 4096) = nI 0
theorem HRs.skip (H : HRs μ E P k) (h : ¬ newA μ E k) : HRs μ E P (k + 1) := by
  obtain ⟨h1, h2, h3⟩ := H
  refine ⟨fun p hp => ?_, ?_, fun i hi hn => ?_⟩
  · rcases h1 p hp with q | ⟨i, a, b, c⟩
    · exact Or.inl q
    · exact Or.inr ⟨i, by omega, b, c⟩
  · rw [h2, cntA, b01_F h]; omega
  · by_cases e : i = k
    · rw [e] at hn; exact absurd hn h
    · exact h3 i (by omega) hn
theorem HRs.add {d : Nat} (H : HRs μ E P k) (k5 : k < 1500) (hn : newA μ E k) (hd : d < 4096) (h0 : P ((hpA (rC μ E k) + d) % 4096) = nI 0) (he : ∀ e, e < d → ¬ P ((hpA (rC μ E k) + e) % 4096) = nI 0) : HRs μ E (upd P ((hpA (rC μ E k) + d) % 4096) (nI (k + 1))) (k + 1) := by
  obtain ⟨h1, h2, h3⟩ := H
  have nz : ∀ j, j ≤ 1500 → ¬ nI (j + 1) = nI 0 := fun j hj q => by have := (n_eq (by omega) (by omega)).mp q; omega
  have hp4 : (hpA (rC μ E k) + d) % 4096 < 4096 := Nat.mod_lt _ (by omega)
  refine ⟨fun p hp => ?_, ?_, fun i hi hni => ?_⟩
  · by_cases e : p = (hpA (rC μ E k) + d) % 4096
    · exact Or.inr ⟨k, by omega, hn, u_at e⟩
    · rw [u_ne e]
      rcases h1 p hp with q | ⟨i, a, b, c⟩
      · exact Or.inl q
      · exact Or.inr ⟨i, by omega, b, c⟩
  · rw [cz_upd (nz k (by omega)) h0, if_pos hp4, h2, cntA, b01_T hn]
  · by_cases e : i = k
    · subst e
      refine ⟨d, hd, u_at rfl, fun e he' => ?_⟩
      by_cases e2 : (hpA (rC μ E i) + e) % 4096 = (hpA (rC μ E i) + d) % 4096
      · rw [u_at e2]; exact nz i (by omega)
      · rw [u_ne e2]; exact he e he'
    · obtain ⟨d', g1, g2, g3⟩ := h3 i (by omega) hni
      refine ⟨d', g1, ?_, fun e he' => ?_⟩
      · rw [u_ne, g2]
        intro q
        rw [q, h0] at g2
        exact nz i (by omega) g2.symm
      · by_cases e2 : (hpA (rC μ E i) + e) % 4096 = (hpA (rC μ E k) + d) % 4096
        · rw [u_at e2]; exact nz k (by omega)
        · rw [u_ne e2]; exact g3 e he'
def L_nr (E : Nat) : zT := (zsq (zif (zcm0 (fun a => zne a 0) (zcall (M_X1_hasSameAnswers E) (zai (zbin zisub (zald (E + 16) 4096 (zl 4)) (zk (nI 1))) (zai (zl 2) zan)))) (zrt (zk (nI 0))) zsk) (zse 4 (zbin ziand (zbin ziadd (zl 4) (zk (nI 1))) (zk (nI 4095)))))
theorem newRes_T (b : Nat) : B_X1_isNewResult b = (zsq (zse 2 (zbin ziadd (zbin zimul (zl 1) (zk (nI 100))) (zk (nI 28)))) (zsq (zse 3 (zk (nI 0))) (zsq (zsq (zse 4 (zk (nI 0))) (zwh zFU (zcmp zlt (zl 4) (zk (nI 9))) (zse 3 (zbin ziadd (zbin zimul (zl 3) (zk (nI 211))) (zald (b + 10) 150000 (zbin ziadd (zl 2) (zl 4))))) (zse 4 (zbin ziadd (zl 4) (zk (nI 1)))))) (zsq (zse 4 (zbin ziushr (zbin zimul (zl 3) (zk (-1640531535))) (zk (nI 20)))) (zsq (zsq (zse 5 (zk (nI 0))) (zwh zFU (zand (zcmp zlt (zl 5) (zk (nI 4096))) (zcm0 (fun a => zne a 0) (zald (b + 16) 4096 (zl 4)))) (L_nr b) (zse 5 (zbin ziadd (zl 5) (zk (nI 1)))))) (zsq (zas (b + 16) 4096 (zl 4) (zbin ziadd (zl 1) (zk (nI 1)))) (zrt (zk (nI 1))))))))) := rfl
theorem e_newRes (H : HRs μ E (μ (E + 16)) k) (hk : k < 1500) (ho : okR μ E k) : ∃ P', (∀ Q, wr (M_X1_isNewResult E [nI k] μ) Q = Q (nI (b01 (newA μ E k))) (zsa μ (E + 16) P')) ∧ HRs μ E P' (k + 1) := by
  have nz : ∀ j, j ≤ 1500 → ¬ nI (j + 1) = nI 0 := fun j hj q => by have := (n_eq (by omega) (by omega)).mp q; omega
  have nz0 : ∀ j, j ≤ 1500 → ¬ nI (j + 1) = 0 := nz
  have key : wr (M_X1_isNewResult E [nI k] μ) (fun r m' => ∃ P', m' = zsa μ (E + 16) P' ∧ r = nI (b01 (newA μ E k)) ∧ HRs μ E P' (k + 1)) := by
    simp only [M_X1_isNewResult, newRes_T]
    simp -implicitDefEqProofs (disch := omega) only [zA0_ap, zA1_ap, zA2_ap, zA3_ap, zA4_ap, zA5_ap, v_fi, v_fz, v_fv, w_k, v_l, v_bin, v_biq, v_ald, v_tb, w_al, w_fd, v_cond, v_call, v_pi, w_an, v_ai, v_aq, v_cmp, v_cm0, w_cb, v_nt, v_and, v_or, w_sk, w_bk, w_cn, w_rv, v_rt, v_sq, v_se, v_ex, v_as, v_az, v_ao, v_pf, v_pz, v_fo, v_if, v_sw, v_lw, v_fl, v_cy, v_cyd, w_lr, wl_some, k_sq0, k_sq1, k_sq2, k_sq3, k_se, k_ex, k_rt, k_l, k_b2, k_b1, k_q2, k_q1, k_ald, k_tb, k_pi, k_condT, k_condF, k_condK, k_call, k_ac, k_ai, k_aq, k_c2, k_c1, k_c0, k_nt, k_andT, k_andF, k_orT, k_orF, k_as2, k_as1, k_az2, k_az1, k_ao2, k_ao1, k_pf, k_pz, k_fo, k_ifT, k_ifF, k_br0, k_br1, k_br2, k_br3, k_s0, k_s1, k_t1, k_s4, k_t4, k_s20, k_t20, zpk_n, zpk_z, zpk_s, k_lw, k_fl, k_cy3, k_cy2, k_cy1, k_cd2, k_cd1, k_w3, k_w20, k_w21, k_w22, k_w23, k_w1T, k_w1F, k_fi, k_fz1, k_fz0, k_fzi, k_fz, k_fv0, k_fv3, k_I, k_B0, k_B1, k_B2, k_B3, k_C, k_E, zenv, zup, ze0, n_add, n_mul, m_st, m_sa, m_ne, m_ss, mm_s, mm_f, mm_ne, mm_ss, mm_sf, Nat.zero_add, u_at, u_ne, if_true, if_false, ite_true, ite_false, reduceIte, and_self, and_true, true_and, or_true, true_or, or_false, false_or, or_self, and_false, false_and, Bool.not_true, Bool.not_false, decide_true, decide_false, ne_eq, n_eqT, n_eqF, n_ltT, n_ltF, n_leT, n_leF, n_z0, n_zF, n_o1, n_oF, n_p0, n_pF, n_lt0, n_ge0, zeq, zne, zlt, zle, zge, zgt, ziadd, zisub, zimul, ziand, zior, zixor, zishl, zishr, ziushr, zidiv, zirem, zmax, zmin, Bool.false_eq_true, not_true_eq_false, not_false_eq_true, Nat.reduceEqDiff, Nat.reduceAdd, Nat.reduceMul, Nat.reduceSub]
    apply v_for (fun q ρ m' => ρ 1 = some (nI k) ∧ ρ 2 = some (nI (k * 100 + 28)) ∧ ρ 3 = some (hsA (rC μ E k) q) ∧ ρ 4 = some (nI q) ∧ m' = μ) 9 (by omega)
    · rintro q ρ m' hq ⟨i1, i2, i3, i4, rfl⟩
      have es : hsA (rC m' E k) (q + 1) = hsA (rC m' E k) q * nI 211 + rC m' E k (28 + q) := rfl
      have e1 : rC m' E k (28 + q) = m' (E + 10) (k * 100 + 28 + q) := by rw [rC_in (by omega), Nat.add_assoc]
      simp -implicitDefEqProofs (disch := omega) only [zA0_ap, zA1_ap, zA2_ap, zA3_ap, zA4_ap, zA5_ap, v_fi, v_fz, v_fv, w_k, v_l, v_bin, v_biq, v_ald, v_tb, w_al, w_fd, v_cond, v_call, v_pi, w_an, v_ai, v_aq, v_cmp, v_cm0, w_cb, v_nt, v_and, v_or, w_sk, w_bk, w_cn, w_rv, v_rt, v_sq, v_se, v_ex, v_as, v_az, v_ao, v_pf, v_pz, v_fo, v_if, v_sw, v_lw, v_fl, v_cy, v_cyd, w_lr, wl_some, k_sq0, k_sq1, k_sq2, k_sq3, k_se, k_ex, k_rt, k_l, k_b2, k_b1, k_q2, k_q1, k_ald, k_tb, k_pi, k_condT, k_condF, k_condK, k_call, k_ac, k_ai, k_aq, k_c2, k_c1, k_c0, k_nt, k_andT, k_andF, k_orT, k_orF, k_as2, k_as1, k_az2, k_az1, k_ao2, k_ao1, k_pf, k_pz, k_fo, k_ifT, k_ifF, k_br0, k_br1, k_br2, k_br3, k_s0, k_s1, k_t1, k_s4, k_t4, k_s20, k_t20, zpk_n, zpk_z, zpk_s, k_lw, k_fl, k_cy3, k_cy2, k_cy1, k_cd2, k_cd1, k_w3, k_w20, k_w21, k_w22, k_w23, k_w1T, k_w1F, k_fi, k_fz1, k_fz0, k_fzi, k_fz, k_fv0, k_fv3, k_I, k_B0, k_B1, k_B2, k_B3, k_C, k_E, zenv, zup, ze0, n_add, n_mul, m_st, m_sa, m_ne, m_ss, mm_s, mm_f, mm_ne, mm_ss, mm_sf, Nat.zero_add, u_at, u_ne, if_true, if_false, ite_true, ite_false, reduceIte, and_self, and_true, true_and, or_true, true_or, or_false, false_or, or_self, and_false, false_and, Bool.not_true, Bool.not_false, decide_true, decide_false, ne_eq, n_eqT, n_eqF, n_ltT, n_ltF, n_leT, n_leF, n_z0, n_zF, n_o1, n_oF, n_p0, n_pF, n_lt0, n_ge0, zeq, zne, zlt, zle, zge, zgt, ziadd, zisub, zimul, ziand, zior, zixor, zishl, zishr, ziushr, zidiv, zirem, zmax, zmin, Bool.false_eq_true, not_true_eq_false, not_false_eq_true, Nat.reduceEqDiff, Nat.reduceAdd, Nat.reduceMul, Nat.reduceSub, i1, i2, i3, i4, es, e1]
    · rintro ρ m' ⟨i1, i2, i3, i4, rfl⟩
      have hh := hp_eq (hsA (rC m' E k) 9 * (-1640531535))
      simp -implicitDefEqProofs (disch := omega) only [zA0_ap, zA1_ap, zA2_ap, zA3_ap, zA4_ap, zA5_ap, v_fi, v_fz, v_fv, w_k, v_l, v_bin, v_biq, v_ald, v_tb, w_al, w_fd, v_cond, v_call, v_pi, w_an, v_ai, v_aq, v_cmp, v_cm0, w_cb, v_nt, v_and, v_or, w_sk, w_bk, w_cn, w_rv, v_rt, v_sq, v_se, v_ex, v_as, v_az, v_ao, v_pf, v_pz, v_fo, v_if, v_sw, v_lw, v_fl, v_cy, v_cyd, w_lr, wl_some, k_sq0, k_sq1, k_sq2, k_sq3, k_se, k_ex, k_rt, k_l, k_b2, k_b1, k_q2, k_q1, k_ald, k_tb, k_pi, k_condT, k_condF, k_condK, k_call, k_ac, k_ai, k_aq, k_c2, k_c1, k_c0, k_nt, k_andT, k_andF, k_orT, k_orF, k_as2, k_as1, k_az2, k_az1, k_ao2, k_ao1, k_pf, k_pz, k_fo, k_ifT, k_ifF, k_br0, k_br1, k_br2, k_br3, k_s0, k_s1, k_t1, k_s4, k_t4, k_s20, k_t20, zpk_n, zpk_z, zpk_s, k_lw, k_fl, k_cy3, k_cy2, k_cy1, k_cd2, k_cd1, k_w3, k_w20, k_w21, k_w22, k_w23, k_w1T, k_w1F, k_fi, k_fz1, k_fz0, k_fzi, k_fz, k_fv0, k_fv3, k_I, k_B0, k_B1, k_B2, k_B3, k_C, k_E, zenv, zup, ze0, n_add, n_mul, m_st, m_sa, m_ne, m_ss, mm_s, mm_f, mm_ne, mm_ss, mm_sf, Nat.zero_add, u_at, u_ne, if_true, if_false, ite_true, ite_false, reduceIte, and_self, and_true, true_and, or_true, true_or, or_false, false_or, or_self, and_false, false_and, Bool.not_true, Bool.not_false, decide_true, decide_false, ne_eq, n_eqT, n_eqF, n_ltT, n_ltF, n_leT, n_leF, n_z0, n_zF, n_o1, n_oF, n_p0, n_pF, n_lt0, n_ge0, zeq, zne, zlt, zle, zge, zgt, ziadd, zisub, zimul, ziand, zior, zixor, zishl, zishr, ziushr, zidiv, zirem, zmax, zmin, Bool.false_eq_true, not_true_eq_false, not_false_eq_true, Nat.reduceEqDiff, Nat.reduceAdd, Nat.reduceMul, Nat.reduceSub, i1, i2, i3, i4, hh]
      have hl : hpA (rC m' E k) < 4096 := hp_lt _
      have e0 : hp (hsA (rC m' E k) 9 * -1640531535) = hpA (rC m' E k) := rfl
      rw [e0]
      apply v_fx (fun d ρ μ' => ρ 1 = some (nI k) ∧ ρ 2 = some (nI (k * 100 + 28)) ∧ ρ 4 = some (nI ((hpA (rC m' E k) + d) % 4096)) ∧ ρ 5 = some (nI d) ∧ μ' = m' ∧ ∀ e, e < d → ∃ i, i < k ∧ newA m' E i ∧ m' (E + 16) ((hpA (rC m' E k) + e) % 4096) = nI (i + 1) ∧ ¬ smA m' E i k) 4096 (by omega)
      · rintro d ρ μ' hd ⟨j1, j2, j4, j5, rfl, h⟩
        have ml : (hpA (rC μ' E k) + d) % 4096 < 4096 := Nat.mod_lt _ (by omega)
        rcases H.1 ((hpA (rC μ' E k) + d) % 4096) ml with z0 | ⟨i, hi, hni, z1⟩
        · have hn : newA μ' E k := by
            refine ⟨ho, fun u hu hou hs => ?_⟩
            obtain ⟨w, h1, h2, h3⟩ := newA_ex u hou
            have hkw : smA μ' E k w := smA_tr hs h3
            obtain ⟨d', g1, g2, g3⟩ := H.2.2 w (by omega) h2
            rw [← hpA_eq hkw] at g2 g3
            by_cases e : d' < d
            · obtain ⟨i, hi, hni, g4, g5⟩ := h d' e
              rw [g2] at g4
              have := (n_eq (by omega) (by omega)).mp g4
              obtain rfl : i = w := by omega
              exact g5 (smA_sy hkw)
            · by_cases e2 : d' = d
              · subst e2
                rw [z0] at g2
                exact nz w (by omega) g2.symm
              · exact g3 d (by omega) z0
          simp -implicitDefEqProofs (disch := omega) only [zA0_ap, zA1_ap, zA2_ap, zA3_ap, zA4_ap, zA5_ap, v_fi, v_fz, v_fv, w_k, v_l, v_bin, v_biq, v_ald, v_tb, w_al, w_fd, v_cond, v_call, v_pi, w_an, v_ai, v_aq, v_cmp, v_cm0, w_cb, v_nt, v_and, v_or, w_sk, w_bk, w_cn, w_rv, v_rt, v_sq, v_se, v_ex, v_as, v_az, v_ao, v_pf, v_pz, v_fo, v_if, v_sw, v_lw, v_fl, v_cy, v_cyd, w_lr, wl_some, k_sq0, k_sq1, k_sq2, k_sq3, k_se, k_ex, k_rt, k_l, k_b2, k_b1, k_q2, k_q1, k_ald, k_tb, k_pi, k_condT, k_condF, k_condK, k_call, k_ac, k_ai, k_aq, k_c2, k_c1, k_c0, k_nt, k_andT, k_andF, k_orT, k_orF, k_as2, k_as1, k_az2, k_az1, k_ao2, k_ao1, k_pf, k_pz, k_fo, k_ifT, k_ifF, k_br0, k_br1, k_br2, k_br3, k_s0, k_s1, k_t1, k_s4, k_t4, k_s20, k_t20, zpk_n, zpk_z, zpk_s, k_lw, k_fl, k_cy3, k_cy2, k_cy1, k_cd2, k_cd1, k_w3, k_w20, k_w21, k_w22, k_w23, k_w1T, k_w1F, k_fi, k_fz1, k_fz0, k_fzi, k_fz, k_fv0, k_fv3, k_I, k_B0, k_B1, k_B2, k_B3, k_C, k_E, zenv, zup, ze0, n_add, n_mul, m_st, m_sa, m_ne, m_ss, mm_s, mm_f, mm_ne, mm_ss, mm_sf, Nat.zero_add, u_at, u_ne, if_true, if_false, ite_true, ite_false, reduceIte, and_self, and_true, true_and, or_true, true_or, or_false, false_or, or_self, and_false, false_and, Bool.not_true, Bool.not_false, decide_true, decide_false, ne_eq, n_eqT, n_eqF, n_ltT, n_ltF, n_leT, n_leF, n_z0, n_zF, n_o1, n_oF, n_p0, n_pF, n_lt0, n_ge0, zeq, zne, zlt, zle, zge, zgt, ziadd, zisub, zimul, ziand, zior, zixor, zishl, zishr, ziushr, zidiv, zirem, zmax, zmin, Bool.false_eq_true, not_true_eq_false, not_false_eq_true, Nat.reduceEqDiff, Nat.reduceAdd, Nat.reduceMul, Nat.reduceSub, k_XT, k_XF, j1, j2, j4, j5, z0]
          refine ⟨_, rfl, ?_, H.add hk hn hd z0 fun e he => ?_⟩
          · rw [b01_T hn]
          · obtain ⟨i, hi, -, g, -⟩ := h e he
            rw [g]; exact nz i (by omega)
        · by_cases hs : smA μ' E i k
          · have hn : ¬ newA μ' E k := fun q => q.2 i hi hni.1 (smA_sy hs)
            simp -implicitDefEqProofs (disch := omega) only [zA0_ap, zA1_ap, zA2_ap, zA3_ap, zA4_ap, zA5_ap, v_fi, v_fz, v_fv, w_k, v_l, v_bin, v_biq, v_ald, v_tb, w_al, w_fd, v_cond, v_call, v_pi, w_an, v_ai, v_aq, v_cmp, v_cm0, w_cb, v_nt, v_and, v_or, w_sk, w_bk, w_cn, w_rv, v_rt, v_sq, v_se, v_ex, v_as, v_az, v_ao, v_pf, v_pz, v_fo, v_if, v_sw, v_lw, v_fl, v_cy, v_cyd, w_lr, wl_some, k_sq0, k_sq1, k_sq2, k_sq3, k_se, k_ex, k_rt, k_l, k_b2, k_b1, k_q2, k_q1, k_ald, k_tb, k_pi, k_condT, k_condF, k_condK, k_call, k_ac, k_ai, k_aq, k_c2, k_c1, k_c0, k_nt, k_andT, k_andF, k_orT, k_orF, k_as2, k_as1, k_az2, k_az1, k_ao2, k_ao1, k_pf, k_pz, k_fo, k_ifT, k_ifF, k_br0, k_br1, k_br2, k_br3, k_s0, k_s1, k_t1, k_s4, k_t4, k_s20, k_t20, zpk_n, zpk_z, zpk_s, k_lw, k_fl, k_cy3, k_cy2, k_cy1, k_cd2, k_cd1, k_w3, k_w20, k_w21, k_w22, k_w23, k_w1T, k_w1F, k_fi, k_fz1, k_fz0, k_fzi, k_fz, k_fv0, k_fv3, k_I, k_B0, k_B1, k_B2, k_B3, k_C, k_E, zenv, zup, ze0, n_add, n_mul, m_st, m_sa, m_ne, m_ss, mm_s, mm_f, mm_ne, mm_ss, mm_sf, Nat.zero_add, u_at, u_ne, if_true, if_false, ite_true, ite_false, reduceIte, and_self, and_true, true_and, or_true, true_or, or_false, false_or, or_self, and_false, false_and, Bool.not_true, Bool.not_false, decide_true, decide_false, ne_eq, n_eqT, n_eqF, n_ltT, n_ltF, n_leT, n_leF, n_z0, n_zF, n_o1, n_oF, n_p0, n_pF, n_lt0, n_ge0, zeq, zne, zlt, zle, zge, zgt, ziadd, zisub, zimul, ziand, zior, zixor, zishl, zishr, ziushr, zidiv, zirem, zmax, zmin, Bool.false_eq_true, not_true_eq_false, not_false_eq_true, Nat.reduceEqDiff, Nat.reduceAdd, Nat.reduceMul, Nat.reduceSub, k_XT, k_XF, L_nr, j1, j2, j4, j5, z1, nz0 i (by omega), n_sub, Nat.add_sub_cancel, e_hasSame (show i < 1500 by omega) hk, b01_T hs]
            exact ⟨_, m_id.symm, by rw [b01_F hn], H.skip hn⟩
          · have em : ((hpA (rC μ' E k) + d) % 4096 + 1) % 4096 = (hpA (rC μ' E k) + (d + 1)) % 4096 := by omega
            simp -implicitDefEqProofs (disch := omega) only [zA0_ap, zA1_ap, zA2_ap, zA3_ap, zA4_ap, zA5_ap, v_fi, v_fz, v_fv, w_k, v_l, v_bin, v_biq, v_ald, v_tb, w_al, w_fd, v_cond, v_call, v_pi, w_an, v_ai, v_aq, v_cmp, v_cm0, w_cb, v_nt, v_and, v_or, w_sk, w_bk, w_cn, w_rv, v_rt, v_sq, v_se, v_ex, v_as, v_az, v_ao, v_pf, v_pz, v_fo, v_if, v_sw, v_lw, v_fl, v_cy, v_cyd, w_lr, wl_some, k_sq0, k_sq1, k_sq2, k_sq3, k_se, k_ex, k_rt, k_l, k_b2, k_b1, k_q2, k_q1, k_ald, k_tb, k_pi, k_condT, k_condF, k_condK, k_call, k_ac, k_ai, k_aq, k_c2, k_c1, k_c0, k_nt, k_andT, k_andF, k_orT, k_orF, k_as2, k_as1, k_az2, k_az1, k_ao2, k_ao1, k_pf, k_pz, k_fo, k_ifT, k_ifF, k_br0, k_br1, k_br2, k_br3, k_s0, k_s1, k_t1, k_s4, k_t4, k_s20, k_t20, zpk_n, zpk_z, zpk_s, k_lw, k_fl, k_cy3, k_cy2, k_cy1, k_cd2, k_cd1, k_w3, k_w20, k_w21, k_w22, k_w23, k_w1T, k_w1F, k_fi, k_fz1, k_fz0, k_fzi, k_fz, k_fv0, k_fv3, k_I, k_B0, k_B1, k_B2, k_B3, k_C, k_E, zenv, zup, ze0, n_add, n_mul, m_st, m_sa, m_ne, m_ss, mm_s, mm_f, mm_ne, mm_ss, mm_sf, Nat.zero_add, u_at, u_ne, if_true, if_false, ite_true, ite_false, reduceIte, and_self, and_true, true_and, or_true, true_or, or_false, false_or, or_self, and_false, false_and, Bool.not_true, Bool.not_false, decide_true, decide_false, ne_eq, n_eqT, n_eqF, n_ltT, n_ltF, n_leT, n_leF, n_z0, n_zF, n_o1, n_oF, n_p0, n_pF, n_lt0, n_ge0, zeq, zne, zlt, zle, zge, zgt, ziadd, zisub, zimul, ziand, zior, zixor, zishl, zishr, ziushr, zidiv, zirem, zmax, zmin, Bool.false_eq_true, not_true_eq_false, not_false_eq_true, Nat.reduceEqDiff, Nat.reduceAdd, Nat.reduceMul, Nat.reduceSub, k_XT, k_XF, L_nr, j1, j2, j4, j5, z1, nz0 i (by omega), n_sub, Nat.add_sub_cancel, e_hasSame (show i < 1500 by omega) hk, b01_F hs, n_4095, em]
            intro e he
            by_cases ee : e = d
            · rw [ee]; exact ⟨i, hi, hni, z1, hs⟩
            · exact h e (by omega)
      · rintro ρ μ' ⟨j1, j2, j4, j5, rfl, h⟩
        obtain ⟨z, hz1, hz2⟩ := cz_zero (P := μ' (E + 16)) (by rw [H.2.1]; have := cntA_le (μ := μ') (E := E) k; omega)
        obtain ⟨i, hi, -, h1, -⟩ := h ((z + 4096 - hpA (rC μ' E k)) % 4096) (Nat.mod_lt _ (by omega))
        rw [show (hpA (rC μ' E k) + (z + 4096 - hpA (rC μ' E k)) % 4096) % 4096 = z by omega, hz2] at h1
        exact absurd h1.symm (nz i (by omega))
      · simp -implicitDefEqProofs (disch := omega) only [zA0_ap, zA1_ap, zA2_ap, zA3_ap, zA4_ap, zA5_ap, v_fi, v_fz, v_fv, w_k, v_l, v_bin, v_biq, v_ald, v_tb, w_al, w_fd, v_cond, v_call, v_pi, w_an, v_ai, v_aq, v_cmp, v_cm0, w_cb, v_nt, v_and, v_or, w_sk, w_bk, w_cn, w_rv, v_rt, v_sq, v_se, v_ex, v_as, v_az, v_ao, v_pf, v_pz, v_fo, v_if, v_sw, v_lw, v_fl, v_cy, v_cyd, w_lr, wl_some, k_sq0, k_sq1, k_sq2, k_sq3, k_se, k_ex, k_rt, k_l, k_b2, k_b1, k_q2, k_q1, k_ald, k_tb, k_pi, k_condT, k_condF, k_condK, k_call, k_ac, k_ai, k_aq, k_c2, k_c1, k_c0, k_nt, k_andT, k_andF, k_orT, k_orF, k_as2, k_as1, k_az2, k_az1, k_ao2, k_ao1, k_pf, k_pz, k_fo, k_ifT, k_ifF, k_br0, k_br1, k_br2, k_br3, k_s0, k_s1, k_t1, k_s4, k_t4, k_s20, k_t20, zpk_n, zpk_z, zpk_s, k_lw, k_fl, k_cy3, k_cy2, k_cy1, k_cd2, k_cd1, k_w3, k_w20, k_w21, k_w22, k_w23, k_w1T, k_w1F, k_fi, k_fz1, k_fz0, k_fzi, k_fz, k_fv0, k_fv3, k_I, k_B0, k_B1, k_B2, k_B3, k_C, k_E, zenv, zup, ze0, n_add, n_mul, m_st, m_sa, m_ne, m_ss, mm_s, mm_f, mm_ne, mm_ss, mm_sf, Nat.zero_add, u_at, u_ne, if_true, if_false, ite_true, ite_false, reduceIte, and_self, and_true, true_and, or_true, true_or, or_false, false_or, or_self, and_false, false_and, Bool.not_true, Bool.not_false, decide_true, decide_false, ne_eq, n_eqT, n_eqF, n_ltT, n_ltF, n_leT, n_leF, n_z0, n_zF, n_o1, n_oF, n_p0, n_pF, n_lt0, n_ge0, zeq, zne, zlt, zle, zge, zgt, ziadd, zisub, zimul, ziand, zior, zixor, zishl, zishr, ziushr, zidiv, zirem, zmax, zmin, Bool.false_eq_true, not_true_eq_false, not_false_eq_true, Nat.reduceEqDiff, Nat.reduceAdd, Nat.reduceMul, Nat.reduceSub, i1, i2, Nat.add_zero, Nat.mod_eq_of_lt hl]
        intro e he
        omega
    · simp -implicitDefEqProofs (disch := omega) only [zA0_ap, zA1_ap, zA2_ap, zA3_ap, zA4_ap, zA5_ap, v_fi, v_fz, v_fv, w_k, v_l, v_bin, v_biq, v_ald, v_tb, w_al, w_fd, v_cond, v_call, v_pi, w_an, v_ai, v_aq, v_cmp, v_cm0, w_cb, v_nt, v_and, v_or, w_sk, w_bk, w_cn, w_rv, v_rt, v_sq, v_se, v_ex, v_as, v_az, v_ao, v_pf, v_pz, v_fo, v_if, v_sw, v_lw, v_fl, v_cy, v_cyd, w_lr, wl_some, k_sq0, k_sq1, k_sq2, k_sq3, k_se, k_ex, k_rt, k_l, k_b2, k_b1, k_q2, k_q1, k_ald, k_tb, k_pi, k_condT, k_condF, k_condK, k_call, k_ac, k_ai, k_aq, k_c2, k_c1, k_c0, k_nt, k_andT, k_andF, k_orT, k_orF, k_as2, k_as1, k_az2, k_az1, k_ao2, k_ao1, k_pf, k_pz, k_fo, k_ifT, k_ifF, k_br0, k_br1, k_br2, k_br3, k_s0, k_s1, k_t1, k_s4, k_t4, k_s20, k_t20, zpk_n, zpk_z, zpk_s, k_lw, k_fl, k_cy3, k_cy2, k_cy1, k_cd2, k_cd1, k_w3, k_w20, k_w21, k_w22, k_w23, k_w1T, k_w1F, k_fi, k_fz1, k_fz0, k_fzi, k_fz, k_fv0, k_fv3, k_I, k_B0, k_B1, k_B2, k_B3, k_C, k_E, zenv, zup, ze0, n_add, n_mul, m_st, m_sa, m_ne, m_ss, mm_s, mm_f, mm_ne, mm_ss, mm_sf, Nat.zero_add, u_at, u_ne, if_true, if_false, ite_true, ite_false, reduceIte, and_self, and_true, true_and, or_true, true_or, or_false, false_or, or_self, and_false, false_and, Bool.not_true, Bool.not_false, decide_true, decide_false, ne_eq, n_eqT, n_eqF, n_ltT, n_ltF, n_leT, n_leF, n_z0, n_zF, n_o1, n_oF, n_p0, n_pF, n_lt0, n_ge0, zeq, zne, zlt, zle, zge, zgt, ziadd, zisub, zimul, ziand, zior, zixor, zishl, zishr, ziushr, zidiv, zirem, zmax, zmin, Bool.false_eq_true, not_true_eq_false, not_false_eq_true, Nat.reduceEqDiff, Nat.reduceAdd, Nat.reduceMul, Nat.reduceSub, hsA]
  obtain ⟨r, m', e, P', rfl, rfl, hP⟩ := wr_get key
  exact ⟨P', fun Q => by rw [e]; rfl, hP⟩
end RES
