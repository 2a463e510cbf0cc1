/-! THE CLASS LOOKS FOR AN ORDER -/
/-- what the judge needs of a program at q (b + 1) and a row c -/
def mgS (μ : zM) (q k : Nat) : Nat := (μ (q + 3) ((μ (q + 5) k).toInt.toNat)).toInt.toNat
def svS (μ : zM) (q : Nat) (c : Nat → Int32) (k : Nat) (y : zY) : Bool × zY := srvA (μ q 8).toInt.toNat (mgS μ q k) (μ (q + 6) k) (c (28 + k)) y
def y0S (μ : zM) (q : Nat) : Nat → zY
  | 0 => ([], 0, 0)
  | k + 1 => (srvA (μ q 8).toInt.toNat (mgS μ q (9 + k)) (μ (q + 6) (9 + k)) 0 (y0S μ q k)).2
def isCS (μ : zM) (q k : Nat) : Prop := k % 3 < ((μ (q + 4)) (k / 3)).toInt.toNat
/-- bounds of a program that the judge needs -/
def PJ (μ : zM) (q : Nat) : Prop := (∀ r, r < 6 → ∃ k, k < 3 ∧ μ (q + 3) r = nI k) ∧ (∃ n : Nat → Nat, (∀ t, t < 4 → μ (q + 4) t = nI (n t)) ∧ n 0 ≤ 3 ∧ n 1 ≤ 3 ∧ n 2 ≤ 3 ∧ n 3 ≤ 4 ∧ n 0 + n 1 + n 2 ≤ 6) ∧ (∀ i, i < 13 → ∃ r, r < 6 ∧ μ (q + 5) i = nI r) ∧ ∃ k, 0 < k ∧ k < 5 ∧ μ q 8 = nI k
section JDC
variable {b q J m : Nat} {μ μ0 ν : zM} {c s f : Nat → Int32} {Q : Int32 → zM → Prop} {n d dp : Nat} {y : zY}
theorem PJ.sl (P : PJ μ q) {k : Nat} (hk : k < 13) : ∃ r, r < 6 ∧ μ (q + 5) k = nI r ∧ mgS μ q k < 3 ∧ μ (q + 3) r = nI (mgS μ q k) := by
  obtain ⟨p1, -, p3, -⟩ := P
  obtain ⟨r, r6, e1⟩ := p3 k hk
  obtain ⟨g, g3, e2⟩ := p1 r r6
  refine ⟨r, r6, e1, ?_⟩
  unfold mgS
  rw [e1, n_tn (by omega), e2, n_tn (by omega)]
  exact ⟨g3, rfl⟩
theorem PJ.md (P : PJ μ q) : ∃ k, 0 < k ∧ k < 5 ∧ μ q 8 = nI k ∧ (μ q 8).toInt.toNat = k := by
  obtain ⟨-, -, -, k, h1, h2, h3⟩ := P
  exact ⟨k, h1, h2, h3, by rw [h3, n_tn (by omega)]⟩
theorem PJ.ct (P : PJ μ q) : (∀ t, t < 4 → μ (q + 4) t = nI ((μ (q + 4) t).toInt.toNat)) ∧ (μ (q + 4) 0).toInt.toNat ≤ 3 ∧ (μ (q + 4) 1).toInt.toNat ≤ 3 ∧ (μ (q + 4) 2).toInt.toNat ≤ 3 ∧ (μ (q + 4) 3).toInt.toNat ≤ 4 ∧ (μ (q + 4) 0).toInt.toNat + (μ (q + 4) 1).toInt.toNat + (μ (q + 4) 2).toInt.toNat ≤ 6 := by
  obtain ⟨-, ⟨n, h, h0, h1, h2, h3, h6⟩, -⟩ := P
  have e : ∀ t, t < 4 → (μ (q + 4) t).toInt.toNat = n t := fun t ht => by
    rw [h t ht]
    exact n_tn (by rcases (show t = 0 ∨ t = 1 ∨ t = 2 ∨ t = 3 by omega) with rfl | rfl | rfl | rfl <;> omega)
  refine ⟨fun t ht => by rw [e t ht]; exact h t ht, ?_⟩
  rw [e 0 (by omega), e 1 (by omega), e 2 (by omega), e 3 (by omega)]
  exact ⟨h0, h1, h2, h3, h6⟩
/-- judges see the same of two memories -/
def EqJ (μ μ' : zM) (q : Nat) : Prop := ∀ k, k < 7 → μ' (q + k) = μ (q + k)
theorem EqJ.p (h : EqJ μ μ0 q) : PJ μ q → PJ μ0 q := fun P => by
  unfold PJ at P ⊢
  rw [h 3 (by omega), h 4 (by omega), h 5 (by omega), show μ0 q = μ q from h 0 (by omega)]
  exact P
theorem EqJ.sv (h : EqJ μ μ0 q) : svS μ0 q c = svS μ q c := by
  funext k y
  unfold svS mgS
  rw [h 3 (by omega), h 6 (by omega), h 5 (by omega), show μ0 q = μ q from h 0 (by omega)]
theorem EqJ.isC (h : EqJ μ μ0 q) : isCS μ0 q = isCS μ q := by
  funext k
  unfold isCS
  rw [h 4 (by omega)]
theorem bit_I {d s : Nat} (hd : d < 2147483648) (hs : s < 31) : nI d >>> (nI s &&& 31) &&& nI 1 = nI (if d.testBit s = true then 1 else 0) := by
  rw [n_shr hd (by omega), n_and]
  congr 1
  rw [show (1 : Nat) = 2 ^ 1 - 1 from rfl, Nat.and_two_pow_sub_one_eq_mod]
  have h := Nat.testBit_eq_decide_div_mod_eq (x := d) (i := s)
  by_cases e : d / 2 ^ s % 2 = 1
  · rw [h]
    simp [e]
  · rw [h]
    simp [e]
    omega
theorem e_canFollow {sl : Nat} (P : PJ μ (b + 1)) (hs : sl < 9) (hd : d < 512) : wr (M_X3_canFollow b [nI sl, nI d] (zsa μ (b + 8) c)) (fun r m => tv r (canO (isCS μ (b + 1)) (fun k => c (37 + k)) sl d) ∧ m = zsa μ (b + 8) c) := by
  obtain ⟨hc, h0, h1, h2, -⟩ := P.ct
  have hrem0 : nI sl - nI sl / nI 3 * nI 3 = nI (sl % 3) := n_rem (by omega) (by omega)
  have hdiv : nI sl / nI 3 = nI (sl / 3) := n_div (by omega) (by omega)
  have hrem : nI sl - nI (sl / 3 * 3) = nI (sl % 3) := by rw [← hrem0, hdiv, n_mul]
  have hb := bit_I (d := d) (s := sl) (by omega) (by omega)
  have hct := hc (sl / 3) (by omega)
  have hn3 : (μ (b + 1 + 4) (sl / 3)).toInt.toNat ≤ 3 := by rcases (show sl / 3 = 0 ∨ sl / 3 = 1 ∨ sl / 3 = 2 by omega) with e | e | e <;> rw [e] <;> assumption
  simp only [M_X3_canFollow, B_X3_canFollow]
  unfold canO isCS tv
  generalize hg : (μ (b + 1 + 4) (sl / 3)).toInt.toNat = nn at hct hn3 ⊢
  by_cases e1 : sl % 3 < nn
  · by_cases e2 : d.testBit sl = true
    · rw [if_pos e2] at hb
      simp -implicitDefEqProofs (disch := omega) only [zA0_ap, zA1_ap, zA2_ap, zA3_ap, zA4_ap, zA5_ap, v_fi, v_fz, v_fv, w_k, v_l, v_bin, v_biq, v_ald, v_tb, w_al, w_fd, v_cond, v_call, v_pi, w_an, v_ai, v_aq, v_cmp, v_cm0, w_cb, v_nt, v_and, v_or, w_sk, w_bk, w_cn, w_rv, v_rt, v_sq, v_se, v_ex, v_as, v_az, v_ao, v_pf, v_pz, v_fo, v_if, v_sw, v_lw, v_fl, v_cy, v_cyd, w_lr, wl_some, k_sq0, k_sq1, k_sq2, k_sq3, k_se, k_ex, k_rt, k_l, k_b2, k_b1, k_q2, k_q1, k_ald, k_tb, k_pi, k_condT, k_condF, k_condK, k_call, k_ac, k_ai, k_aq, k_c2, k_c1, k_c0, k_nt, k_andT, k_andF, k_orT, k_orF, k_as2, k_as1, k_az2, k_az1, k_ao2, k_ao1, k_pf, k_pz, k_fo, k_ifT, k_ifF, k_br0, k_br1, k_br2, k_br3, k_s0, k_s1, k_t1, k_s4, k_t4, k_s20, k_t20, zpk_n, zpk_z, zpk_s, k_lw, k_fl, k_cy3, k_cy2, k_cy1, k_cd2, k_cd1, k_w3, k_w20, k_w21, k_w22, k_w23, k_w1T, k_w1F, k_fi, k_fz1, k_fz0, k_fzi, k_fz, k_fv0, k_fv3, k_I, k_B0, k_B1, k_B2, k_B3, k_C, k_E, zenv, zup, ze0, n_add, n_mul, m_st, m_sa, m_ne, m_ss, mm_s, mm_f, mm_ne, mm_ss, mm_sf, Nat.zero_add, u_at, u_ne, if_true, if_false, ite_true, ite_false, reduceIte, and_self, and_true, true_and, or_true, true_or, or_false, false_or, or_self, and_false, false_and, Bool.not_true, Bool.not_false, decide_true, decide_false, ne_eq, n_eqT, n_eqF, n_ltT, n_ltF, n_leT, n_leF, n_z0, n_zF, n_o1, n_oF, n_p0, n_pF, n_lt0, n_ge0, zeq, zne, zlt, zle, zge, zgt, ziadd, zisub, zimul, ziand, zior, zixor, zishl, zishr, ziushr, zidiv, zirem, zmax, zmin, Bool.false_eq_true, not_true_eq_false, not_false_eq_true, Nat.reduceEqDiff, Nat.reduceAdd, Nat.reduceMul, Nat.reduceSub, hrem, hdiv, hct, hb]
      exact fun q => by rw [e2] at q; cases q.2.1
    · rw [if_neg e2] at hb
      have e2' : d.testBit sl = false := by simpa using e2
      by_cases e3 : c (37 + sl) &&& (nI d ^^^ (-1)) = 0
      · simp -implicitDefEqProofs (disch := omega) only [zA0_ap, zA1_ap, zA2_ap, zA3_ap, zA4_ap, zA5_ap, v_fi, v_fz, v_fv, w_k, v_l, v_bin, v_biq, v_ald, v_tb, w_al, w_fd, v_cond, v_call, v_pi, w_an, v_ai, v_aq, v_cmp, v_cm0, w_cb, v_nt, v_and, v_or, w_sk, w_bk, w_cn, w_rv, v_rt, v_sq, v_se, v_ex, v_as, v_az, v_ao, v_pf, v_pz, v_fo, v_if, v_sw, v_lw, v_fl, v_cy, v_cyd, w_lr, wl_some, k_sq0, k_sq1, k_sq2, k_sq3, k_se, k_ex, k_rt, k_l, k_b2, k_b1, k_q2, k_q1, k_ald, k_tb, k_pi, k_condT, k_condF, k_condK, k_call, k_ac, k_ai, k_aq, k_c2, k_c1, k_c0, k_nt, k_andT, k_andF, k_orT, k_orF, k_as2, k_as1, k_az2, k_az1, k_ao2, k_ao1, k_pf, k_pz, k_fo, k_ifT, k_ifF, k_br0, k_br1, k_br2, k_br3, k_s0, k_s1, k_t1, k_s4, k_t4, k_s20, k_t20, zpk_n, zpk_z, zpk_s, k_lw, k_fl, k_cy3, k_cy2, k_cy1, k_cd2, k_cd1, k_w3, k_w20, k_w21, k_w22, k_w23, k_w1T, k_w1F, k_fi, k_fz1, k_fz0, k_fzi, k_fz, k_fv0, k_fv3, k_I, k_B0, k_B1, k_B2, k_B3, k_C, k_E, zenv, zup, ze0, n_add, n_mul, m_st, m_sa, m_ne, m_ss, mm_s, mm_f, mm_ne, mm_ss, mm_sf, Nat.zero_add, u_at, u_ne, if_true, if_false, ite_true, ite_false, reduceIte, and_self, and_true, true_and, or_true, true_or, or_false, false_or, or_self, and_false, false_and, Bool.not_true, Bool.not_false, decide_true, decide_false, ne_eq, n_eqT, n_eqF, n_ltT, n_ltF, n_leT, n_leF, n_z0, n_zF, n_o1, n_oF, n_p0, n_pF, n_lt0, n_ge0, zeq, zne, zlt, zle, zge, zgt, ziadd, zisub, zimul, ziand, zior, zixor, zishl, zishr, ziushr, zidiv, zirem, zmax, zmin, Bool.false_eq_true, not_true_eq_false, not_false_eq_true, Nat.reduceEqDiff, Nat.reduceAdd, Nat.reduceMul, Nat.reduceSub, hrem, hdiv, hct, hb, eq_true e3]
        exact ⟨e1, e2'⟩
      · simp -implicitDefEqProofs (disch := omega) only [zA0_ap, zA1_ap, zA2_ap, zA3_ap, zA4_ap, zA5_ap, v_fi, v_fz, v_fv, w_k, v_l, v_bin, v_biq, v_ald, v_tb, w_al, w_fd, v_cond, v_call, v_pi, w_an, v_ai, v_aq, v_cmp, v_cm0, w_cb, v_nt, v_and, v_or, w_sk, w_bk, w_cn, w_rv, v_rt, v_sq, v_se, v_ex, v_as, v_az, v_ao, v_pf, v_pz, v_fo, v_if, v_sw, v_lw, v_fl, v_cy, v_cyd, w_lr, wl_some, k_sq0, k_sq1, k_sq2, k_sq3, k_se, k_ex, k_rt, k_l, k_b2, k_b1, k_q2, k_q1, k_ald, k_tb, k_pi, k_condT, k_condF, k_condK, k_call, k_ac, k_ai, k_aq, k_c2, k_c1, k_c0, k_nt, k_andT, k_andF, k_orT, k_orF, k_as2, k_as1, k_az2, k_az1, k_ao2, k_ao1, k_pf, k_pz, k_fo, k_ifT, k_ifF, k_br0, k_br1, k_br2, k_br3, k_s0, k_s1, k_t1, k_s4, k_t4, k_s20, k_t20, zpk_n, zpk_z, zpk_s, k_lw, k_fl, k_cy3, k_cy2, k_cy1, k_cd2, k_cd1, k_w3, k_w20, k_w21, k_w22, k_w23, k_w1T, k_w1F, k_fi, k_fz1, k_fz0, k_fzi, k_fz, k_fv0, k_fv3, k_I, k_B0, k_B1, k_B2, k_B3, k_C, k_E, zenv, zup, ze0, n_add, n_mul, m_st, m_sa, m_ne, m_ss, mm_s, mm_f, mm_ne, mm_ss, mm_sf, Nat.zero_add, u_at, u_ne, if_true, if_false, ite_true, ite_false, reduceIte, and_self, and_true, true_and, or_true, true_or, or_false, false_or, or_self, and_false, false_and, Bool.not_true, Bool.not_false, decide_true, decide_false, ne_eq, n_eqT, n_eqF, n_ltT, n_ltF, n_leT, n_leF, n_z0, n_zF, n_o1, n_oF, n_p0, n_pF, n_lt0, n_ge0, zeq, zne, zlt, zle, zge, zgt, ziadd, zisub, zimul, ziand, zior, zixor, zishl, zishr, ziushr, zidiv, zirem, zmax, zmin, Bool.false_eq_true, not_true_eq_false, not_false_eq_true, Nat.reduceEqDiff, Nat.reduceAdd, Nat.reduceMul, Nat.reduceSub, hrem, hdiv, hct, hb, eq_false e3]
  · simp -implicitDefEqProofs (disch := omega) only [zA0_ap, zA1_ap, zA2_ap, zA3_ap, zA4_ap, zA5_ap, v_fi, v_fz, v_fv, w_k, v_l, v_bin, v_biq, v_ald, v_tb, w_al, w_fd, v_cond, v_call, v_pi, w_an, v_ai, v_aq, v_cmp, v_cm0, w_cb, v_nt, v_and, v_or, w_sk, w_bk, w_cn, w_rv, v_rt, v_sq, v_se, v_ex, v_as, v_az, v_ao, v_pf, v_pz, v_fo, v_if, v_sw, v_lw, v_fl, v_cy, v_cyd, w_lr, wl_some, k_sq0, k_sq1, k_sq2, k_sq3, k_se, k_ex, k_rt, k_l, k_b2, k_b1, k_q2, k_q1, k_ald, k_tb, k_pi, k_condT, k_condF, k_condK, k_call, k_ac, k_ai, k_aq, k_c2, k_c1, k_c0, k_nt, k_andT, k_andF, k_orT, k_orF, k_as2, k_as1, k_az2, k_az1, k_ao2, k_ao1, k_pf, k_pz, k_fo, k_ifT, k_ifF, k_br0, k_br1, k_br2, k_br3, k_s0, k_s1, k_t1, k_s4, k_t4, k_s20, k_t20, zpk_n, zpk_z, zpk_s, k_lw, k_fl, k_cy3, k_cy2, k_cy1, k_cd2, k_cd1, k_w3, k_w20, k_w21, k_w22, k_w23, k_w1T, k_w1F, k_fi, k_fz1, k_fz0, k_fzi, k_fz, k_fv0, k_fv3, k_I, k_B0, k_B1, k_B2, k_B3, k_C, k_E, zenv, zup, ze0, n_add, n_mul, m_st, m_sa, m_ne, m_ss, mm_s, mm_f, mm_ne, mm_ss, mm_sf, Nat.zero_add, u_at, u_ne, if_true, if_false, ite_true, ite_false, reduceIte, and_self, and_true, true_and, or_true, true_or, or_false, false_or, or_self, and_false, false_and, Bool.not_true, Bool.not_false, decide_true, decide_false, ne_eq, n_eqT, n_eqF, n_ltT, n_ltF, n_leT, n_leF, n_z0, n_zF, n_o1, n_oF, n_p0, n_pF, n_lt0, n_ge0, zeq, zne, zlt, zle, zge, zgt, ziadd, zisub, zimul, ziand, zior, zixor, zishl, zishr, ziushr, zidiv, zirem, zmax, zmin, Bool.false_eq_true, not_true_eq_false, not_false_eq_true, Nat.reduceEqDiff, Nat.reduceAdd, Nat.reduceMul, Nat.reduceSub, hrem, hdiv, hct]
    exact fun q => e1 q.1
theorem svS_len (P : PJ μ q) {k : Nat} (h : y.2.1 ≤ y.1.length) (h1 : (μ q 8).toInt.toNat = 1 → y.2.1 = 0) : (svS μ q c k y).2.1.length ≤ y.1.length + 1 ∧ (svS μ q c k y).2.2.1 ≤ (svS μ q c k y).2.1.length ∧ ((μ q 8).toInt.toNat = 1 → (svS μ q c k y).2.2.1 = 0) := srvA_len h h1
theorem y0S_len (P : PJ μ q) : ∀ k, (y0S μ q k).1.length ≤ k ∧ (y0S μ q k).2.1 ≤ (y0S μ q k).1.length ∧ ((μ q 8).toInt.toNat = 1 → (y0S μ q k).2.1 = 0)
  | 0 => ⟨Nat.le_refl _, Nat.le_refl _, fun _ => rfl⟩
  | k + 1 => by
    obtain ⟨h1, h2, h3⟩ := y0S_len P k
    have := srvA_len (M := (μ q 8).toInt.toNat) (g := mgS μ q (9 + k)) (arg := μ (q + 6) (9 + k)) (ans := 0) h2 h3
    unfold y0S
    exact ⟨by omega, this.2.1, this.2.2⟩
theorem ShC.cp {h g : Nat → Int32} (S : ShC h y) (hl : y.1.length ≤ 10) : ShC (va_cpy h g 0 0 13) y := by
  obtain ⟨s0, s1, s2, s3, s4⟩ := S
  exact ⟨by rw [cp_in (by omega)]; exact s0, by rw [cp_in (by omega)]; exact s1, by rw [cp_in (by omega)]; exact s2, fun i hi => by rw [cp_in (by omega)]; exact s3 i hi, s4⟩
theorem e_total (P : PJ μ q) : wr (M_X6_total q [] μ) Q = Q (nI ((μ (q + 4) 0).toInt.toNat + (μ (q + 4) 1).toInt.toNat + (μ (q + 4) 2).toInt.toNat)) μ := by
  obtain ⟨hc, -⟩ := P.ct
  refine wr_fn ?_ Q
  simp only [M_X6_total, B_X6_total]
  have e0 := hc 0 (by omega)
  have e1 := hc 1 (by omega)
  have e2 := hc 2 (by omega)
  generalize (μ (q + 4) 0).toInt.toNat = n0 at e0 ⊢
  generalize (μ (q + 4) 1).toInt.toNat = n1 at e1 ⊢
  generalize (μ (q + 4) 2).toInt.toNat = n2 at e2 ⊢
  simp -implicitDefEqProofs (disch := omega) only [zA0_ap, zA1_ap, zA2_ap, zA3_ap, zA4_ap, zA5_ap, v_fi, v_fz, v_fv, w_k, v_l, v_bin, v_biq, v_ald, v_tb, w_al, w_fd, v_cond, v_call, v_pi, w_an, v_ai, v_aq, v_cmp, v_cm0, w_cb, v_nt, v_and, v_or, w_sk, w_bk, w_cn, w_rv, v_rt, v_sq, v_se, v_ex, v_as, v_az, v_ao, v_pf, v_pz, v_fo, v_if, v_sw, v_lw, v_fl, v_cy, v_cyd, w_lr, wl_some, k_sq0, k_sq1, k_sq2, k_sq3, k_se, k_ex, k_rt, k_l, k_b2, k_b1, k_q2, k_q1, k_ald, k_tb, k_pi, k_condT, k_condF, k_condK, k_call, k_ac, k_ai, k_aq, k_c2, k_c1, k_c0, k_nt, k_andT, k_andF, k_orT, k_orF, k_as2, k_as1, k_az2, k_az1, k_ao2, k_ao1, k_pf, k_pz, k_fo, k_ifT, k_ifF, k_br0, k_br1, k_br2, k_br3, k_s0, k_s1, k_t1, k_s4, k_t4, k_s20, k_t20, zpk_n, zpk_z, zpk_s, k_lw, k_fl, k_cy3, k_cy2, k_cy1, k_cd2, k_cd1, k_w3, k_w20, k_w21, k_w22, k_w23, k_w1T, k_w1F, k_fi, k_fz1, k_fz0, k_fzi, k_fz, k_fv0, k_fv3, k_I, k_B0, k_B1, k_B2, k_B3, k_C, k_E, zenv, zup, ze0, n_add, n_mul, m_st, m_sa, m_ne, m_ss, mm_s, mm_f, mm_ne, mm_ss, mm_sf, Nat.zero_add, u_at, u_ne, if_true, if_false, ite_true, ite_false, reduceIte, and_self, and_true, true_and, or_true, true_or, or_false, false_or, or_self, and_false, false_and, Bool.not_true, Bool.not_false, decide_true, decide_false, ne_eq, n_eqT, n_eqF, n_ltT, n_ltF, n_leT, n_leF, n_z0, n_zF, n_o1, n_oF, n_p0, n_pF, n_lt0, n_ge0, zeq, zne, zlt, zle, zge, zgt, ziadd, zisub, zimul, ziand, zior, zixor, zishl, zishr, ziushr, zidiv, zirem, zmax, zmin, Bool.false_eq_true, not_true_eq_false, not_false_eq_true, Nat.reduceEqDiff, Nat.reduceAdd, Nat.reduceMul, Nat.reduceSub, e0, e1, e2]
def allS (μ : zM) (q : Nat) : Nat := (μ (q + 4) 0).toInt.toNat + (μ (q + 4) 1).toInt.toNat + (μ (q + 4) 2).toInt.toNat
/-- one place of the loop: serve a call on the next shelf -/
theorem e_serveD {sl : Nat} (P : PJ μ (b + 1)) (hs : sl < 13) (hdp : dp < 7) (hn : J + 8 < b ∨ b + 9 < J + 2) {h : Nat → Int32} {ans : Int32} (S : ShC h y) (hl : y.1.length < 10) (h1 : (μ (b + 1) 8).toInt.toNat = 1 → y.2.1 = 0) : ∃ h', ShC h' (srvA (μ (b + 1) 8).toInt.toNat (mgS μ (b + 1) sl) (μ (b + 1 + 6) sl) ans y).2 ∧ ∀ Q, wr (M_X3_serveD (b + 1) (J + 1 + 1) [nI sl, ans, nI dp] (zsa μ (J + 2 + dp) h)) Q = Q (if (srvA (μ (b + 1) 8).toInt.toNat (mgS μ (b + 1) sl) (μ (b + 1 + 6) sl) ans y).1 = true then nI 1 else nI 0) (zsa μ (J + 2 + dp) h') := by
  obtain ⟨r, r6, e1, g3, e2⟩ := P.sl hs
  obtain ⟨M, M0, M5, e3, e4⟩ := P.md
  rw [e4] at h1 ⊢
  obtain ⟨h', S', k⟩ := e_serve (μ := μ) (q0 := b + 1) (q1 := J + 2 + dp) (sl := sl) (arg := μ (b + 1 + 6) sl) (ans := ans) S h1 hl hs r6 g3 M5 M0 e1 e2 rfl e3 (by omega)
  refine ⟨h', S', fun Q => ?_⟩
  unfold M_X3_serveD
  rw [zA3_ap, n_tn (by omega), if_pos hdp]
  exact k Q
end JDC
