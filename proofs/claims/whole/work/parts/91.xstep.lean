/-! EXPLORATIONS: one choice from a kept state, on both sides -/
section XST
variable {E m k n i j K T t ch e q : Nat} {μ ν μ' ν' : zM} {c s f c' s' : Nat → Int32}
def XI0 (E m n K T : Nat) (μ ν : zM) : Prop := XCtx E m μ ν ∧ XRow E m n μ ν ∧ XTree E m n μ ν ∧ XMark E m n μ ν ∧ XNext E m n K μ ν ∧ XWay E m K μ ν ∧ XTr E T μ ∧ XHash E m n μ ν
def XRe (E n K : Nat) (μ : zM) : Prop := ∀ i, 0 < i → i < n → ∃ p ch, p < i ∧ ch < 6 ∧ p * 6 + ch < K ∧ μ (E + 11) (p * 6 + ch) = nI i
theorem m4_n {t : Nat} (h : t < 2147483648) : ¬ nI t = -4 := fun q => by
  have := congrArg Int32.toInt q
  rw [n_toInt h, show (-4 : Int32).toInt = -4 from rfl] at this
  omega
theorem XI0.nx (X : XI0 E m n K T μ ν) (hp : PrE E μ μ') (hA : ∀ a, a = E + 10 ∨ (E + 12 ≤ a ∧ a ≤ E + 16) → μ' a = μ a) (hF : μ' E 11 = μ E 11 ∧ μ' E 12 = μ E 12) (hM : ∀ a, (a = m + 2 ∨ (m + 7 ≤ a ∧ a ≤ m + 10) ∨ (m + 13 ≤ a ∧ a ≤ m + 16)) → ν' a = ν a) (hG : ν' m 3 = ν m 3 ∧ ν' m 17 = ν m 17) (h1 : ∀ j, j < K → μ' (E + 11) j = μ (E + 11) j) (h2 : ∀ j, j < K → ν' (m + 11) j = ν (m + 11) j) (h3 : ∀ j, j < K → ν' (m + 12) j = ν (m + 12) j) (hsp : ∃ e, e < 2 ∧ μ' E 10 = nI e ∧ ν' m 18 = nI e) (hK : K < 9000) (hent : (μ' (E + 11) K = -4 ∧ ν' (m + 11) K = -4 ∧ ν' m 19 = ν m 19) ∨ ∃ t e, t < n ∧ e < 2 ∧ μ' (E + 11) K = nI t ∧ ν' (m + 11) K = nI t ∧ ν' (m + 12) K = nI e ∧ ovS (rC μ E t) = ovS (rC μ E (K / 6)) + e ∧ ν' m 19 = ν m 19 + nI 1) : XI0 E m n (K + 1) T μ' ν' := by
  obtain ⟨x1, x2, x3, x4, x5, x6, x7, x8⟩ := X
  have h10 : μ' (E + 10) = μ (E + 10) := hA _ (Or.inl rfl)
  refine ⟨x1.cg hp (hM _ (Or.inl rfl)) hG.1, x2.cg hp h10 (hM _ (by omega)) hF.1 hG.2, x3.cg (fun a a1 a2 => hA a (by omega)) (hM _ (by omega)) (hM _ (by omega)), x4.cg hp h10 (hM _ (by omega)) (hM _ (by omega)), fun j hj => ?_, ⟨?_, hsp⟩, x7.cg hp h10 (hA _ (by omega)) hF.2, x8.cg h10 (hA _ (by omega)) (fun a a1 a2 => hM a (by omega))⟩
  · by_cases e : j = K
    · subst e
      rw [rC_cg h10]
      rcases hent with ⟨a, b, -⟩ | ⟨t, e, a1, a2, a3, a4, a5, a6, -⟩
      · exact Or.inl ⟨a, b⟩
      · exact Or.inr ⟨t, e, a1, a2, a3, a4, a5, a6⟩
    · exact x5.cg h10 h1 h2 h3 j (by omega)
  · rw [cnN, cnN_cg K h1]
    rcases hent with ⟨a, -, b⟩ | ⟨t, e, a1, -, a3, -, -, -, b⟩
    · rw [a, if_pos rfl, b]; exact x6.1
    · have : n ≤ 1500 := x2.1
      rw [a3, if_neg (m4_n (by omega)), b, x6.1, n_add]
theorem XRe.nx (X : XRe E n K μ) (h1 : ∀ j, j < K → μ' (E + 11) j = μ (E + 11) j) : XRe E n (K + 1) μ' := by
  intro i hi hin
  obtain ⟨p, ch, a1, a2, a3, a4⟩ := X i hi hin
  exact ⟨p, ch, a1, a2, by omega, by rw [h1 _ a3]; exact a4⟩
theorem XRe.add (X : XRe E n K μ) (hi : i < n) (hch : ch < 6) (hK : K = i * 6 + ch) (h1 : ∀ j, j < K → μ' (E + 11) j = μ (E + 11) j) (h2 : μ' (E + 11) K = nI n) : XRe E (n + 1) (K + 1) μ' := by
  intro j hj hjn
  by_cases e : j = n
  · subst e
    exact ⟨i, ch, hi, hch, by omega, by rw [← hK]; exact h2⟩
  · obtain ⟨p, ch, a1, a2, a3, a4⟩ := X j hj (by omega)
    exact ⟨p, ch, a1, a2, by omega, by rw [h1 _ a3]; exact a4⟩
/-- what else stays -/
def FX (E m : Nat) (μ ν μ' ν' : zM) : Prop := (∀ a, (a < E ∨ (E < a ∧ a < E + 9) ∨ E + 16 < a) → μ' a = μ a) ∧ (∀ j, (j < 10 ∨ 13 < j) → μ' E j = μ E j) ∧ (∀ a, (a = m + 1 ∨ a = m + 2 ∨ a = m + 6 ∨ m + 16 < a) → ν' a = ν a) ∧ ∀ j, j ≠ 4 → j ≠ 5 → j ≠ 7 → j ≠ 8 → j ≠ 9 → j ≠ 17 → j ≠ 18 → j ≠ 19 → ν' m j = ν m j
theorem FX.rf : FX E m μ ν μ ν := ⟨fun _ _ => rfl, fun _ _ => rfl, fun _ _ => rfl, fun _ _ _ _ _ _ _ _ _ => rfl⟩
theorem FX.tr {μ'' ν'' : zM} (h : FX E m μ ν μ' ν') (g : FX E m μ' ν' μ'' ν'') : FX E m μ ν μ'' ν'' :=
  ⟨fun a ha => (g.1 a ha).trans (h.1 a ha), fun a ha => (g.2.1 a ha).trans (h.2.1 a ha), fun a ha => (g.2.2.1 a ha).trans (h.2.2.1 a ha), fun j a1 a2 a3 a4 a5 a6 a7 a8 => (g.2.2.2 j a1 a2 a3 a4 a5 a6 a7 a8).trans (h.2.2.2 j a1 a2 a3 a4 a5 a6 a7 a8)⟩
def L_gi (E : Nat) : zT := (zsq (zas (E + 11) 9000 (zbin ziadd (zbin zimul (zl 2) (zk (nI 6))) (zl 3)) (zk (-4))) (zsq (zif (znt (zcm0 (fun a => zne a 0) (zcall (M_X5_isPossible (E + 1)) (zai (zl 3) zan)))) zcn zsk) (zsq (zex (zcall (M_X5_choose (E + 1)) (zai (zl 3) zan))) (zsq (zas (E + 11) 9000 (zbin ziadd (zbin zimul (zl 2) (zk (nI 6))) (zl 3)) (zcall (M_X1_keep E) (zai (zl 2) (zai (zl 3) zan)))) (zex (zcall (M_X1_load E) (zai (zl 2) zan)))))))
def C_gi : zC := (zcmp zlt (zl 3) (zk (nI 6)))
def U_gi : zT := (zse 3 (zbin ziadd (zl 3) (zk (nI 1))))
/-- the machine's cells are those of state i -/
def CE (E i : Nat) (μ : zM) : Prop := eq100 (μ (E + 1 + 8)) (rC μ E i) ∧ deadZ false (μ (E + 1 + 8))
def stp (E i ch : Nat) (μ μ' : zM) : Prop := ∀ F ρ Q, ρ 2 = some (nI i) → ρ 3 = some (nI ch) → (∀ ρ' : zE, ρ' 2 = some (nI i) → ρ' 3 = some (nI (ch + 1)) → wp (zwh F C_gi (L_gi E) U_gi) ρ' μ' Q) → wp (zwh (F + 1) C_gi (L_gi E) U_gi) ρ μ Q
theorem x_step (X : XI0 E m n K T μ ν) (Y : XRe E n K μ) (hK : K = i * 6 + ch) (hi : i < n) (hch : ch < 6) (hT : T ≤ n) (hc : CE E i μ) : ∃ μ' ν' n', n ≤ n' ∧ stp E i ch μ μ' ∧ (∀ Q, wr (M_X9_goesOn m [nI i, nI ch] ν) Q = Q 0 ν') ∧ XI0 E m n' (K + 1) T μ' ν' ∧ XRe E n' (K + 1) μ' ∧ CE E i μ' ∧ FX E m μ ν μ' ν' := by
  have n5 : n ≤ 1500 := X.2.1.1
  have K9 : K < 9000 := by omega
  have hk6 : 6 * i + ch = K := by omega
  have hk6' : i * 6 + ch = K := by omega
  have Kd : K / 6 = i := by omega
  obtain ⟨⟨C, lt, f3⟩, ⟨-, h11, h17, hW, hD⟩, xt, xm, xn, ⟨xw, es, es2, sp1, sp2⟩, xr, xh⟩ := id X
  have W0 : Wn μ (E + 1) (μ (E + 1 + 8)) (ovr (ν (m + 3)) 0 100 (fun q => ν (m + 7) (100 * i + q))) := ((hW i hi).cx hc.1 hc.2).sx (fun q hq => ovr_in hq)
  have hμ : zmm ν m (ν (m + 3)) (ν m) = ν := mm_id
  generalize hs0 : ovr (ν (m + 3)) 0 100 (fun q => ν (m + 7) (100 * i + q)) = s0 at W0
  -- the class's memory behind the first row
  have pa : PrE E μ (zsa μ (E + 11) (upd (μ (E + 11)) K (-4))) := fun a a1 a2 => m_ne (by omega)
  have ea : zsa μ (E + 11) (upd (μ (E + 11)) K (-4)) (E + 1 + 8) = μ (E + 1 + 8) := m_ne (by omega)
  have Wa : Wn (zsa μ (E + 11) (upd (μ (E + 11)) K (-4))) (E + 1) (zsa μ (E + 11) (upd (μ (E + 11)) K (-4)) (E + 1 + 8)) s0 := by rw [ea]; exact pa.wn W0
  have Ca : Ctx (E + 1) m (zsa μ (E + 11) (upd (μ (E + 11)) K (-4))) (zsa ν (m + 11) (upd (ν (m + 11)) K (-4))) := (C.cg pa.p).cgM (m_ne (by omega))
  have hld : ∀ f Q, wr (M_X9_load m [nI i] (zmm (zsa ν (m + 11) (upd (ν (m + 11)) K (-4))) m (ν (m + 3)) f)) Q = Q 0 (zmm (zsa ν (m + 11) (upd (ν (m + 11)) K (-4))) m s0 f) := fun f Q => by
    rw [g_load (show i < 1500 by omega), m_ne (by omega), hs0]
  by_cases hp : psb (zsa μ (E + 11) (upd (μ (E + 11)) K (-4)) (E + 1 + 8)) (cN (zsa μ (E + 11) (upd (μ (E + 11)) K (-4))) (E + 1)) ch
  · obtain ⟨c', s', f', e, k1, k2, W2, k3, e2, k4, kov⟩ := Wn.choose (f := ν m) ⟨Ca, by rw [m_ne (by omega), m_ne (by omega)]; exact lt, f3⟩ Wa hch hp
    simp only [m_id] at k1
    rw [ea] at kov
    have k4' : (f' 4 = 0 ∨ f' 4 = 1) = True := eq_true (by rw [k4]; rcases (show e = 0 ∨ e = 1 by omega) with rfl | rfl <;> decide)
    have j17 : f' 17 = nI n := (k3 17 (by omega) (by omega)).trans h17
    have j19 : f' 19 = ν m 19 := k3 19 (by omega) (by omega)
    have pb : PrE E μ (zsa (zsa μ (E + 11) (upd (μ (E + 11)) K (-4))) (E + 1 + 8) c') := fun a a1 a2 => by rw [m_ne (by omega), m_ne (by omega)]
    have eb8 : (zsa (zsa μ (E + 11) (upd (μ (E + 11)) K (-4))) (E + 1 + 8) c') (E + 1 + 8) = c' := m_sa
    have eb10 : (zsa (zsa μ (E + 11) (upd (μ (E + 11)) K (-4))) (E + 1 + 8) c') (E + 10) = μ (E + 10) := by rw [m_ne (by omega), m_ne (by omega)]
    have eb16 : (zsa (zsa μ (E + 11) (upd (μ (E + 11)) K (-4))) (E + 1 + 8) c') (E + 16) = μ (E + 16) := by rw [m_ne (by omega), m_ne (by omega)]
    have eb0 : (zsa (zsa μ (E + 11) (upd (μ (E + 11)) K (-4))) (E + 1 + 8) c') E = μ E := by rw [m_ne (by omega), m_ne (by omega)]
    have W2m : Wn μ (E + 1) c' s' := W2.cg (pa _ (by omega) (by omega)).symm (pa _ (by omega) (by omega)).symm
    have dc' : deadZ false c' := W2.2.1
    have Hc : HCl ((zsa (zsa μ (E + 11) (upd (μ (E + 11)) K (-4))) (E + 1 + 8) c') (E + 16)) ((zsa (zsa μ (E + 11) (upd (μ (E + 11)) K (-4))) (E + 1 + 8) c') (E + 10)) n := by rw [eb16, eb10]; exact xh.1
    have hkp := e_keep (ch := nI ch) Hc n5 (by rw [eb0]; exact h11) (show i < 1500 by omega)
    rw [eb8, eb10] at hkp
    have Hm : HMo (zsa (zsa ν (m + 11) (upd (ν (m + 11)) K (-4))) (m + 12) (upd (ν (m + 12)) K (f' 4))) m n := xh.2.cg fun a a1 a2 => by rw [m_ne (by omega), m_ne (by omega)]
    obtain ⟨r, g1, g2⟩ := g_found (s := s') (f := f') Hm n5
    rw [show (zsa (zsa ν (m + 11) (upd (ν (m + 11)) K (-4))) (m + 12) (upd (ν (m + 12)) K (f' 4))) (m + 7) = ν (m + 7) by rw [m_ne (by omega), m_ne (by omega)]] at g2
    have cm : ∀ t, t < n → (eq100 (rowC (μ (E + 10)) t) c' ↔ eq100 (rowM (ν (m + 7)) t) s') := fun t ht => row_CM (hW t ht) W2m
    have hov : ovS c' = ovS (rC μ E i) + e := by rw [kov, ovS_cx hc.1]
    have sp2' : f' 18 = nI es := (k3 18 (by omega) (by omega)).trans sp2
    have f3e : f' 3 = ν m 3 := k3 3 (by omega) (by omega)
    rcases hkp with ⟨t, ht, hs, kQ⟩ | ⟨hno, ⟨hn5, kQ⟩ | ⟨hn5, μc, kQ, c1, c2, c3, c4, c5, c6, c7⟩⟩
    · -- found
      have hr : r = nI t := by
        rcases g2 with ⟨t', ht', hs', rfl⟩ | ⟨q, -⟩
        · have hs2 := (cm t' ht').mpr hs'
          have : t' = t := by
            rcases (show t' < t ∨ t' = t ∨ t < t' by omega) with q | q | q
            · exact absurd (fun z hz => (hs2 z hz).trans (hs z hz).symm) (hD t' t q ht)
            · exact q
            · exact absurd (fun z hz => (hs z hz).trans (hs2 z hz).symm) (hD t t' q ht')
          rw [this]
        · exact absurd ((cm t ht).mp hs) (q t ht)
      subst hr
      refine ⟨zsa (zsa (zsa (zsa μ (E + 11) (upd (μ (E + 11)) K (-4))) (E + 1 + 8) c') (E + 11) (upd (upd (μ (E + 11)) K (-4)) K (nI t))) (E + 1 + 8) (va_cpy (μ (E + 10)) c' (i * 100) 0 100), zmm (zsa (zsa (zsa ν (m + 11) (upd (ν (m + 11)) K (-4))) (m + 12) (upd (ν (m + 12)) K (f' 4))) (m + 11) (upd (upd (ν (m + 11)) K (-4)) K (nI t))) m s' (upd f' 19 (f' 19 + nI 1)), n, Nat.le_refl _, ?_, ?_, X.nx (fun a a1 a2 => ?_) (fun a ha => ?_) ?_ (fun a ha => ?_) ?_ (fun j hj => ?_) (fun j hj => ?_) (fun j hj => ?_) ⟨es, es2, ?_, ?_⟩ K9 (Or.inr ⟨t, e, ht, e2, ?_, ?_, ?_, ?_, ?_⟩), Y.nx (fun j hj => ?_), ?_, ?_⟩
      · intro F ρ Q h2 h3 H
        simp -implicitDefEqProofs (disch := omega) only [zA0_ap, zA1_ap, zA2_ap, zA3_ap, zA4_ap, zA5_ap, v_fi, v_fz, v_fv, w_k, v_l, v_bin, v_biq, v_ald, v_tb, w_al, w_fd, v_cond, v_call, v_pi, w_an, v_ai, v_aq, v_cmp, v_cm0, w_cb, v_nt, v_and, v_or, w_sk, w_bk, w_cn, w_rv, v_rt, v_sq, v_se, v_ex, v_as, v_az, v_ao, v_pf, v_pz, v_fo, v_if, v_sw, v_lw, v_fl, v_cy, v_cyd, w_lr, wl_some, k_sq0, k_sq1, k_sq2, k_sq3, k_se, k_ex, k_rt, k_l, k_b2, k_b1, k_q2, k_q1, k_ald, k_tb, k_pi, k_condT, k_condF, k_condK, k_call, k_ac, k_ai, k_aq, k_c2, k_c1, k_c0, k_nt, k_andT, k_andF, k_orT, k_orF, k_as2, k_as1, k_az2, k_az1, k_ao2, k_ao1, k_pf, k_pz, k_fo, k_ifT, k_ifF, k_br0, k_br1, k_br2, k_br3, k_s0, k_s1, k_t1, k_s4, k_t4, k_s20, k_t20, zpk_n, zpk_z, zpk_s, k_lw, k_fl, k_cy3, k_cy2, k_cy1, k_cd2, k_cd1, k_w3, k_w20, k_w21, k_w22, k_w23, k_w1T, k_w1F, k_fi, k_fz1, k_fz0, k_fzi, k_fz, k_fv0, k_fv3, k_I, k_B0, k_B1, k_B2, k_B3, k_C, k_E, zenv, zup, ze0, n_add, n_mul, m_st, m_sa, m_ne, m_ss, mm_s, mm_f, mm_ne, mm_ss, mm_sf, Nat.zero_add, u_at, u_ne, if_true, if_false, ite_true, ite_false, reduceIte, and_self, and_true, true_and, or_true, true_or, or_false, false_or, or_self, and_false, false_and, Bool.not_true, Bool.not_false, decide_true, decide_false, ne_eq, n_eqT, n_eqF, n_ltT, n_ltF, n_leT, n_leF, n_z0, n_zF, n_o1, n_oF, n_p0, n_pF, n_lt0, n_ge0, zeq, zne, zlt, zle, zge, zgt, ziadd, zisub, zimul, ziand, zior, zixor, zishl, zishr, ziushr, zidiv, zirem, zmax, zmin, Bool.false_eq_true, not_true_eq_false, not_false_eq_true, Nat.reduceEqDiff, Nat.reduceAdd, Nat.reduceMul, Nat.reduceSub, v_wh, C_gi, L_gi, U_gi, h2, h3, hk6', e_psbT Ca Wa hch hp, k1, kQ, e_load (show i < 1500 by omega), eb10, eb8]
        exact H _ (by simp -implicitDefEqProofs (disch := omega) only [zA0_ap, zA1_ap, zA2_ap, zA3_ap, zA4_ap, zA5_ap, v_fi, v_fz, v_fv, w_k, v_l, v_bin, v_biq, v_ald, v_tb, w_al, w_fd, v_cond, v_call, v_pi, w_an, v_ai, v_aq, v_cmp, v_cm0, w_cb, v_nt, v_and, v_or, w_sk, w_bk, w_cn, w_rv, v_rt, v_sq, v_se, v_ex, v_as, v_az, v_ao, v_pf, v_pz, v_fo, v_if, v_sw, v_lw, v_fl, v_cy, v_cyd, w_lr, wl_some, k_sq0, k_sq1, k_sq2, k_sq3, k_se, k_ex, k_rt, k_l, k_b2, k_b1, k_q2, k_q1, k_ald, k_tb, k_pi, k_condT, k_condF, k_condK, k_call, k_ac, k_ai, k_aq, k_c2, k_c1, k_c0, k_nt, k_andT, k_andF, k_orT, k_orF, k_as2, k_as1, k_az2, k_az1, k_ao2, k_ao1, k_pf, k_pz, k_fo, k_ifT, k_ifF, k_br0, k_br1, k_br2, k_br3, k_s0, k_s1, k_t1, k_s4, k_t4, k_s20, k_t20, zpk_n, zpk_z, zpk_s, k_lw, k_fl, k_cy3, k_cy2, k_cy1, k_cd2, k_cd1, k_w3, k_w20, k_w21, k_w22, k_w23, k_w1T, k_w1F, k_fi, k_fz1, k_fz0, k_fzi, k_fz, k_fv0, k_fv3, k_I, k_B0, k_B1, k_B2, k_B3, k_C, k_E, zenv, zup, ze0, n_add, n_mul, m_st, m_sa, m_ne, m_ss, mm_s, mm_f, mm_ne, mm_ss, mm_sf, Nat.zero_add, u_at, u_ne, if_true, if_false, ite_true, ite_false, reduceIte, and_self, and_true, true_and, or_true, true_or, or_false, false_or, or_self, and_false, false_and, Bool.not_true, Bool.not_false, decide_true, decide_false, ne_eq, n_eqT, n_eqF, n_ltT, n_ltF, n_leT, n_leF, n_z0, n_zF, n_o1, n_oF, n_p0, n_pF, n_lt0, n_ge0, zeq, zne, zlt, zle, zge, zgt, ziadd, zisub, zimul, ziand, zior, zixor, zishl, zishr, ziushr, zidiv, zirem, zmax, zmin, Bool.false_eq_true, not_true_eq_false, not_false_eq_true, Nat.reduceEqDiff, Nat.reduceAdd, Nat.reduceMul, Nat.reduceSub, h2]) (by simp -implicitDefEqProofs (disch := omega) only [zA0_ap, zA1_ap, zA2_ap, zA3_ap, zA4_ap, zA5_ap, v_fi, v_fz, v_fv, w_k, v_l, v_bin, v_biq, v_ald, v_tb, w_al, w_fd, v_cond, v_call, v_pi, w_an, v_ai, v_aq, v_cmp, v_cm0, w_cb, v_nt, v_and, v_or, w_sk, w_bk, w_cn, w_rv, v_rt, v_sq, v_se, v_ex, v_as, v_az, v_ao, v_pf, v_pz, v_fo, v_if, v_sw, v_lw, v_fl, v_cy, v_cyd, w_lr, wl_some, k_sq0, k_sq1, k_sq2, k_sq3, k_se, k_ex, k_rt, k_l, k_b2, k_b1, k_q2, k_q1, k_ald, k_tb, k_pi, k_condT, k_condF, k_condK, k_call, k_ac, k_ai, k_aq, k_c2, k_c1, k_c0, k_nt, k_andT, k_andF, k_orT, k_orF, k_as2, k_as1, k_az2, k_az1, k_ao2, k_ao1, k_pf, k_pz, k_fo, k_ifT, k_ifF, k_br0, k_br1, k_br2, k_br3, k_s0, k_s1, k_t1, k_s4, k_t4, k_s20, k_t20, zpk_n, zpk_z, zpk_s, k_lw, k_fl, k_cy3, k_cy2, k_cy1, k_cd2, k_cd1, k_w3, k_w20, k_w21, k_w22, k_w23, k_w1T, k_w1F, k_fi, k_fz1, k_fz0, k_fzi, k_fz, k_fv0, k_fv3, k_I, k_B0, k_B1, k_B2, k_B3, k_C, k_E, zenv, zup, ze0, n_add, n_mul, m_st, m_sa, m_ne, m_ss, mm_s, mm_f, mm_ne, mm_ss, mm_sf, Nat.zero_add, u_at, u_ne, if_true, if_false, ite_true, ite_false, reduceIte, and_self, and_true, true_and, or_true, true_or, or_false, false_or, or_self, and_false, false_and, Bool.not_true, Bool.not_false, decide_true, decide_false, ne_eq, n_eqT, n_eqF, n_ltT, n_ltF, n_leT, n_leF, n_z0, n_zF, n_o1, n_oF, n_p0, n_pF, n_lt0, n_ge0, zeq, zne, zlt, zle, zge, zgt, ziadd, zisub, zimul, ziand, zior, zixor, zishl, zishr, ziushr, zidiv, zirem, zmax, zmin, Bool.false_eq_true, not_true_eq_false, not_false_eq_true, Nat.reduceEqDiff, Nat.reduceAdd, Nat.reduceMul, Nat.reduceSub])
      · intro Q
        have key : wr (M_X9_goesOn m [nI i, nI ch] (zmm ν m (ν (m + 3)) (ν m))) Q = Q 0 (zmm (zsa (zsa (zsa ν (m + 11) (upd (ν (m + 11)) K (-4))) (m + 12) (upd (ν (m + 12)) K (f' 4))) (m + 11) (upd (upd (ν (m + 11)) K (-4)) K (nI t))) m s' (upd f' 19 (f' 19 + nI 1))) := by
          simp only [M_X9_goesOn, B_X9_goesOn]
          simp -implicitDefEqProofs (disch := omega) only [zA0_ap, zA1_ap, zA2_ap, zA3_ap, zA4_ap, zA5_ap, v_fi, v_fz, v_fv, w_k, v_l, v_bin, v_biq, v_ald, v_tb, w_al, w_fd, v_cond, v_call, v_pi, w_an, v_ai, v_aq, v_cmp, v_cm0, w_cb, v_nt, v_and, v_or, w_sk, w_bk, w_cn, w_rv, v_rt, v_sq, v_se, v_ex, v_as, v_az, v_ao, v_pf, v_pz, v_fo, v_if, v_sw, v_lw, v_fl, v_cy, v_cyd, w_lr, wl_some, k_sq0, k_sq1, k_sq2, k_sq3, k_se, k_ex, k_rt, k_l, k_b2, k_b1, k_q2, k_q1, k_ald, k_tb, k_pi, k_condT, k_condF, k_condK, k_call, k_ac, k_ai, k_aq, k_c2, k_c1, k_c0, k_nt, k_andT, k_andF, k_orT, k_orF, k_as2, k_as1, k_az2, k_az1, k_ao2, k_ao1, k_pf, k_pz, k_fo, k_ifT, k_ifF, k_br0, k_br1, k_br2, k_br3, k_s0, k_s1, k_t1, k_s4, k_t4, k_s20, k_t20, zpk_n, zpk_z, zpk_s, k_lw, k_fl, k_cy3, k_cy2, k_cy1, k_cd2, k_cd1, k_w3, k_w20, k_w21, k_w22, k_w23, k_w1T, k_w1F, k_fi, k_fz1, k_fz0, k_fzi, k_fz, k_fv0, k_fv3, k_I, k_B0, k_B1, k_B2, k_B3, k_C, k_E, zenv, zup, ze0, n_add, n_mul, m_st, m_sa, m_ne, m_ss, mm_s, mm_f, mm_ne, mm_ss, mm_sf, Nat.zero_add, u_at, u_ne, if_true, if_false, ite_true, ite_false, reduceIte, and_self, and_true, true_and, or_true, true_or, or_false, false_or, or_self, and_false, false_and, Bool.not_true, Bool.not_false, decide_true, decide_false, ne_eq, n_eqT, n_eqF, n_ltT, n_ltF, n_leT, n_leF, n_z0, n_zF, n_o1, n_oF, n_p0, n_pF, n_lt0, n_ge0, zeq, zne, zlt, zle, zge, zgt, ziadd, zisub, zimul, ziand, zior, zixor, zishl, zishr, ziushr, zidiv, zirem, zmax, zmin, Bool.false_eq_true, not_true_eq_false, not_false_eq_true, Nat.reduceEqDiff, Nat.reduceAdd, Nat.reduceMul, Nat.reduceSub, hk6, mm_out, hld, g_psbT Ca Wa hch hp, k2, k4', g_sumNow, g1]
        rw [hμ] at key
        exact key
      · rw [m_ne (by omega), m_ne (by omega)]; exact pb a a1 a2
      · simp (disch := omega) only [m_ne]
      · exact ⟨by simp (disch := omega) only [m_ne], by simp (disch := omega) only [m_ne]⟩
      · simp (disch := omega) only [mm_ne, m_ne]
      · exact ⟨by simp (disch := omega) only [mm_f, u_ne]; exact f3e, by simp (disch := omega) only [mm_f, u_ne]; rw [j17, h17]⟩
      · simp (disch := omega) only [m_ne, m_sa, u_ne]
      · simp (disch := omega) only [mm_ne, m_ne, m_sa, u_ne]
      · simp (disch := omega) only [mm_ne, m_ne, m_sa, u_ne]
      · simp (disch := omega) only [m_ne]; exact sp1
      · simp (disch := omega) only [mm_f, u_ne]; exact sp2'
      · simp (disch := omega) only [m_ne, m_sa, u_at]
      · simp (disch := omega) only [mm_ne, m_sa, u_at]
      · simp (disch := omega) only [mm_ne, m_ne, m_sa, u_at]; exact k4
      · rw [Kd, ← hov]; exact ovS_cx hs
      · simp (disch := omega) only [mm_f, u_at]; rw [j19]
      · simp (disch := omega) only [m_ne, m_sa, u_ne]
      · refine ⟨?_, ?_⟩
        · rw [m_sa, rC_cg (μ := μ) (by simp (disch := omega) only [m_ne])]
          exact load_row
        · rw [m_sa]
          unfold deadZ at dc' ⊢
          simp only [Bool.false_eq_true, if_false] at dc' ⊢
          rw [load_out (by omega), load_out (by omega), load_out (by omega)]
          exact dc'
      · refine ⟨fun a ha => ?_, fun j hj => ?_, fun a ha => ?_, fun j a1 a2 a3 a4 a5 a6 a7 a8 => ?_⟩
        · simp (disch := omega) only [m_ne]
        · simp (disch := omega) only [m_ne]
        · simp (disch := omega) only [mm_ne, m_ne]
        · simp (disch := omega) only [mm_f, u_ne]; exact k3 j a1 a2
    · -- no room
      have hr : r = -1 := by
        rcases g2 with ⟨t', ht', hs', rfl⟩ | ⟨-, q⟩
        · exact absurd ((cm t' ht').mpr hs') (hno t' ht')
        · exact q
      subst hr
      refine ⟨zsa (zsa (zsa (zsa (zsa μ (E + 11) (upd (μ (E + 11)) K (-4))) (E + 1 + 8) c') E (upd (μ E) 10 (nI 1))) (E + 11) (upd (upd (μ (E + 11)) K (-4)) K (-4))) (E + 1 + 8) (va_cpy (μ (E + 10)) c' (i * 100) 0 100), zmm (zsa (zsa ν (m + 11) (upd (ν (m + 11)) K (-4))) (m + 12) (upd (ν (m + 12)) K (f' 4))) m s' (upd f' 18 (nI 1)), n, Nat.le_refl _, ?_, ?_, X.nx (fun a a1 a2 => ?_) (fun a ha => ?_) ?_ (fun a ha => ?_) ?_ (fun j hj => ?_) (fun j hj => ?_) (fun j hj => ?_) ⟨1, by omega, ?_, ?_⟩ K9 (Or.inl ⟨?_, ?_, ?_⟩), Y.nx (fun j hj => ?_), ?_, ?_⟩
      · intro F ρ Q h2 h3 H
        simp -implicitDefEqProofs (disch := omega) only [zA0_ap, zA1_ap, zA2_ap, zA3_ap, zA4_ap, zA5_ap, v_fi, v_fz, v_fv, w_k, v_l, v_bin, v_biq, v_ald, v_tb, w_al, w_fd, v_cond, v_call, v_pi, w_an, v_ai, v_aq, v_cmp, v_cm0, w_cb, v_nt, v_and, v_or, w_sk, w_bk, w_cn, w_rv, v_rt, v_sq, v_se, v_ex, v_as, v_az, v_ao, v_pf, v_pz, v_fo, v_if, v_sw, v_lw, v_fl, v_cy, v_cyd, w_lr, wl_some, k_sq0, k_sq1, k_sq2, k_sq3, k_se, k_ex, k_rt, k_l, k_b2, k_b1, k_q2, k_q1, k_ald, k_tb, k_pi, k_condT, k_condF, k_condK, k_call, k_ac, k_ai, k_aq, k_c2, k_c1, k_c0, k_nt, k_andT, k_andF, k_orT, k_orF, k_as2, k_as1, k_az2, k_az1, k_ao2, k_ao1, k_pf, k_pz, k_fo, k_ifT, k_ifF, k_br0, k_br1, k_br2, k_br3, k_s0, k_s1, k_t1, k_s4, k_t4, k_s20, k_t20, zpk_n, zpk_z, zpk_s, k_lw, k_fl, k_cy3, k_cy2, k_cy1, k_cd2, k_cd1, k_w3, k_w20, k_w21, k_w22, k_w23, k_w1T, k_w1F, k_fi, k_fz1, k_fz0, k_fzi, k_fz, k_fv0, k_fv3, k_I, k_B0, k_B1, k_B2, k_B3, k_C, k_E, zenv, zup, ze0, n_add, n_mul, m_st, m_sa, m_ne, m_ss, mm_s, mm_f, mm_ne, mm_ss, mm_sf, Nat.zero_add, u_at, u_ne, if_true, if_false, ite_true, ite_false, reduceIte, and_self, and_true, true_and, or_true, true_or, or_false, false_or, or_self, and_false, false_and, Bool.not_true, Bool.not_false, decide_true, decide_false, ne_eq, n_eqT, n_eqF, n_ltT, n_ltF, n_leT, n_leF, n_z0, n_zF, n_o1, n_oF, n_p0, n_pF, n_lt0, n_ge0, zeq, zne, zlt, zle, zge, zgt, ziadd, zisub, zimul, ziand, zior, zixor, zishl, zishr, ziushr, zidiv, zirem, zmax, zmin, Bool.false_eq_true, not_true_eq_false, not_false_eq_true, Nat.reduceEqDiff, Nat.reduceAdd, Nat.reduceMul, Nat.reduceSub, v_wh, C_gi, L_gi, U_gi, h2, h3, hk6', e_psbT Ca Wa hch hp, k1, kQ, e_load (show i < 1500 by omega), eb10, eb8, eb0]
        exact H _ (by simp -implicitDefEqProofs (disch := omega) only [zA0_ap, zA1_ap, zA2_ap, zA3_ap, zA4_ap, zA5_ap, v_fi, v_fz, v_fv, w_k, v_l, v_bin, v_biq, v_ald, v_tb, w_al, w_fd, v_cond, v_call, v_pi, w_an, v_ai, v_aq, v_cmp, v_cm0, w_cb, v_nt, v_and, v_or, w_sk, w_bk, w_cn, w_rv, v_rt, v_sq, v_se, v_ex, v_as, v_az, v_ao, v_pf, v_pz, v_fo, v_if, v_sw, v_lw, v_fl, v_cy, v_cyd, w_lr, wl_some, k_sq0, k_sq1, k_sq2, k_sq3, k_se, k_ex, k_rt, k_l, k_b2, k_b1, k_q2, k_q1, k_ald, k_tb, k_pi, k_condT, k_condF, k_condK, k_call, k_ac, k_ai, k_aq, k_c2, k_c1, k_c0, k_nt, k_andT, k_andF, k_orT, k_orF, k_as2, k_as1, k_az2, k_az1, k_ao2, k_ao1, k_pf, k_pz, k_fo, k_ifT, k_ifF, k_br0, k_br1, k_br2, k_br3, k_s0, k_s1, k_t1, k_s4, k_t4, k_s20, k_t20, zpk_n, zpk_z, zpk_s, k_lw, k_fl, k_cy3, k_cy2, k_cy1, k_cd2, k_cd1, k_w3, k_w20, k_w21, k_w22, k_w23, k_w1T, k_w1F, k_fi, k_fz1, k_fz0, k_fzi, k_fz, k_fv0, k_fv3, k_I, k_B0, k_B1, k_B2, k_B3, k_C, k_E, zenv, zup, ze0, n_add, n_mul, m_st, m_sa, m_ne, m_ss, mm_s, mm_f, mm_ne, mm_ss, mm_sf, Nat.zero_add, u_at, u_ne, if_true, if_false, ite_true, ite_false, reduceIte, and_self, and_true, true_and, or_true, true_or, or_false, false_or, or_self, and_false, false_and, Bool.not_true, Bool.not_false, decide_true, decide_false, ne_eq, n_eqT, n_eqF, n_ltT, n_ltF, n_leT, n_leF, n_z0, n_zF, n_o1, n_oF, n_p0, n_pF, n_lt0, n_ge0, zeq, zne, zlt, zle, zge, zgt, ziadd, zisub, zimul, ziand, zior, zixor, zishl, zishr, ziushr, zidiv, zirem, zmax, zmin, Bool.false_eq_true, not_true_eq_false, not_false_eq_true, Nat.reduceEqDiff, Nat.reduceAdd, Nat.reduceMul, Nat.reduceSub, h2]) (by simp -implicitDefEqProofs (disch := omega) only [zA0_ap, zA1_ap, zA2_ap, zA3_ap, zA4_ap, zA5_ap, v_fi, v_fz, v_fv, w_k, v_l, v_bin, v_biq, v_ald, v_tb, w_al, w_fd, v_cond, v_call, v_pi, w_an, v_ai, v_aq, v_cmp, v_cm0, w_cb, v_nt, v_and, v_or, w_sk, w_bk, w_cn, w_rv, v_rt, v_sq, v_se, v_ex, v_as, v_az, v_ao, v_pf, v_pz, v_fo, v_if, v_sw, v_lw, v_fl, v_cy, v_cyd, w_lr, wl_some, k_sq0, k_sq1, k_sq2, k_sq3, k_se, k_ex, k_rt, k_l, k_b2, k_b1, k_q2, k_q1, k_ald, k_tb, k_pi, k_condT, k_condF, k_condK, k_call, k_ac, k_ai, k_aq, k_c2, k_c1, k_c0, k_nt, k_andT, k_andF, k_orT, k_orF, k_as2, k_as1, k_az2, k_az1, k_ao2, k_ao1, k_pf, k_pz, k_fo, k_ifT, k_ifF, k_br0, k_br1, k_br2, k_br3, k_s0, k_s1, k_t1, k_s4, k_t4, k_s20, k_t20, zpk_n, zpk_z, zpk_s, k_lw, k_fl, k_cy3, k_cy2, k_cy1, k_cd2, k_cd1, k_w3, k_w20, k_w21, k_w22, k_w23, k_w1T, k_w1F, k_fi, k_fz1, k_fz0, k_fzi, k_fz, k_fv0, k_fv3, k_I, k_B0, k_B1, k_B2, k_B3, k_C, k_E, zenv, zup, ze0, n_add, n_mul, m_st, m_sa, m_ne, m_ss, mm_s, mm_f, mm_ne, mm_ss, mm_sf, Nat.zero_add, u_at, u_ne, if_true, if_false, ite_true, ite_false, reduceIte, and_self, and_true, true_and, or_true, true_or, or_false, false_or, or_self, and_false, false_and, Bool.not_true, Bool.not_false, decide_true, decide_false, ne_eq, n_eqT, n_eqF, n_ltT, n_ltF, n_leT, n_leF, n_z0, n_zF, n_o1, n_oF, n_p0, n_pF, n_lt0, n_ge0, zeq, zne, zlt, zle, zge, zgt, ziadd, zisub, zimul, ziand, zior, zixor, zishl, zishr, ziushr, zidiv, zirem, zmax, zmin, Bool.false_eq_true, not_true_eq_false, not_false_eq_true, Nat.reduceEqDiff, Nat.reduceAdd, Nat.reduceMul, Nat.reduceSub])
      · intro Q
        have key : wr (M_X9_goesOn m [nI i, nI ch] (zmm ν m (ν (m + 3)) (ν m))) Q = Q 0 (zmm (zsa (zsa ν (m + 11) (upd (ν (m + 11)) K (-4))) (m + 12) (upd (ν (m + 12)) K (f' 4))) m s' (upd f' 18 (nI 1))) := by
          simp only [M_X9_goesOn, B_X9_goesOn]
          simp -implicitDefEqProofs (disch := omega) only [zA0_ap, zA1_ap, zA2_ap, zA3_ap, zA4_ap, zA5_ap, v_fi, v_fz, v_fv, w_k, v_l, v_bin, v_biq, v_ald, v_tb, w_al, w_fd, v_cond, v_call, v_pi, w_an, v_ai, v_aq, v_cmp, v_cm0, w_cb, v_nt, v_and, v_or, w_sk, w_bk, w_cn, w_rv, v_rt, v_sq, v_se, v_ex, v_as, v_az, v_ao, v_pf, v_pz, v_fo, v_if, v_sw, v_lw, v_fl, v_cy, v_cyd, w_lr, wl_some, k_sq0, k_sq1, k_sq2, k_sq3, k_se, k_ex, k_rt, k_l, k_b2, k_b1, k_q2, k_q1, k_ald, k_tb, k_pi, k_condT, k_condF, k_condK, k_call, k_ac, k_ai, k_aq, k_c2, k_c1, k_c0, k_nt, k_andT, k_andF, k_orT, k_orF, k_as2, k_as1, k_az2, k_az1, k_ao2, k_ao1, k_pf, k_pz, k_fo, k_ifT, k_ifF, k_br0, k_br1, k_br2, k_br3, k_s0, k_s1, k_t1, k_s4, k_t4, k_s20, k_t20, zpk_n, zpk_z, zpk_s, k_lw, k_fl, k_cy3, k_cy2, k_cy1, k_cd2, k_cd1, k_w3, k_w20, k_w21, k_w22, k_w23, k_w1T, k_w1F, k_fi, k_fz1, k_fz0, k_fzi, k_fz, k_fv0, k_fv3, k_I, k_B0, k_B1, k_B2, k_B3, k_C, k_E, zenv, zup, ze0, n_add, n_mul, m_st, m_sa, m_ne, m_ss, mm_s, mm_f, mm_ne, mm_ss, mm_sf, Nat.zero_add, u_at, u_ne, if_true, if_false, ite_true, ite_false, reduceIte, and_self, and_true, true_and, or_true, true_or, or_false, false_or, or_self, and_false, false_and, Bool.not_true, Bool.not_false, decide_true, decide_false, ne_eq, n_eqT, n_eqF, n_ltT, n_ltF, n_leT, n_leF, n_z0, n_zF, n_o1, n_oF, n_p0, n_pF, n_lt0, n_ge0, zeq, zne, zlt, zle, zge, zgt, ziadd, zisub, zimul, ziand, zior, zixor, zishl, zishr, ziushr, zidiv, zirem, zmax, zmin, Bool.false_eq_true, not_true_eq_false, not_false_eq_true, Nat.reduceEqDiff, Nat.reduceAdd, Nat.reduceMul, Nat.reduceSub, hk6, mm_out, hld, g_psbT Ca Wa hch hp, k2, k4', g_sumNow, g1, m1_lt, j17, hn5]
        rw [hμ] at key
        exact key
      · rw [m_ne (by omega), m_ne (by omega), m_ne (by omega)]; exact pb a a1 a2
      · simp (disch := omega) only [m_ne]
      · exact ⟨by simp (disch := omega) only [m_ne, m_sa, u_ne], by simp (disch := omega) only [m_ne, m_sa, u_ne]⟩
      · simp (disch := omega) only [mm_ne, m_ne]
      · exact ⟨by simp (disch := omega) only [mm_f, u_ne]; exact f3e, by simp (disch := omega) only [mm_f, u_ne]; rw [j17, h17]⟩
      · simp (disch := omega) only [m_ne, m_sa, u_ne]
      · simp (disch := omega) only [mm_ne, m_ne, m_sa, u_ne]
      · simp (disch := omega) only [mm_ne, m_ne, m_sa, u_ne]
      · simp (disch := omega) only [m_ne, m_sa, u_at]
      · simp (disch := omega) only [mm_f, u_at]
      · simp (disch := omega) only [m_ne, m_sa, u_at]
      · simp (disch := omega) only [mm_ne, m_ne, m_sa, u_at]
      · simp (disch := omega) only [mm_f, u_ne]; exact j19
      · simp (disch := omega) only [m_ne, m_sa, u_ne]
      · refine ⟨?_, ?_⟩
        · rw [m_sa, rC_cg (μ := μ) (by simp (disch := omega) only [m_ne])]
          exact load_row
        · rw [m_sa]
          unfold deadZ at dc' ⊢
          simp only [Bool.false_eq_true, if_false] at dc' ⊢
          rw [load_out (by omega), load_out (by omega), load_out (by omega)]
          exact dc'
      · refine ⟨fun a ha => ?_, fun j hj => ?_, fun a ha => ?_, fun j a1 a2 a3 a4 a5 a6 a7 a8 => ?_⟩
        · simp (disch := omega) only [m_ne]
        · simp (disch := omega) only [m_ne, m_sa, u_ne]
        · simp (disch := omega) only [mm_ne, m_ne]
        · simp (disch := omega) only [mm_f, u_ne]; exact k3 j a1 a2
    · -- new
      have hr : r = -1 := by
        rcases g2 with ⟨t', ht', hs', rfl⟩ | ⟨-, q⟩
        · exact absurd ((cm t' ht').mpr hs') (hno t' ht')
        · exact q
      subst hr
      have C2 : Ctx (E + 1) m μ (zsa (zsa ν (m + 11) (upd (ν (m + 11)) K (-4))) (m + 12) (upd (ν (m + 12)) K (f' 4))) := C.cgM (by rw [m_ne (by omega), m_ne (by omega)])
      obtain ⟨ν3, f3', gQ, p7, p8, p9, p10, p13, p14, p15, p16, q17, qf, qa⟩ := g_keepM (v := smM s' 100) (par := nI i) (chv := nI ch) C2 W2m hn5 j17
      have r11 : ν3 (m + 11) = upd (ν (m + 11)) K (-4) := by
        rw [qa _ (by omega) (by omega) (by omega) (by omega) (by omega) (by omega) (by omega) (by omega) (by omega) (by omega) (by omega) (by omega)]
        simp (disch := omega) only [m_ne, m_sa]
      have r12 : ν3 (m + 12) = upd (ν (m + 12)) K (f' 4) := by
        rw [qa _ (by omega) (by omega) (by omega) (by omega) (by omega) (by omega) (by omega) (by omega) (by omega) (by omega) (by omega) (by omega)]
        simp (disch := omega) only [m_ne, m_sa]
      have ro : ∀ a, (a = m + 1 ∨ a = m + 2 ∨ a = m + 6 ∨ m + 16 < a) → ν3 a = ν a := fun a ha => by
        rw [qa _ (by omega) (by omega) (by omega) (by omega) (by omega) (by omega) (by omega) (by omega) (by omega) (by omega) (by omega) (by omega)]
        simp (disch := omega) only [m_ne]
      have s7 : ν3 (m + 7) = ovr (ν (m + 7)) (100 * n) 100 s' := by rw [p7]; simp (disch := omega) only [m_ne]
      have s8 : ν3 (m + 8) = upd (ν (m + 8)) n (smM s' 100) := by rw [p8]; simp (disch := omega) only [m_ne]
      have s9 : ν3 (m + 9) = upd (ν (m + 9)) (bk (smM s' 100)) (nI (n + 1)) := by rw [p9]; simp (disch := omega) only [m_ne]
      have s10 : ν3 (m + 10) = upd (ν (m + 10)) n (ν (m + 9) (bk (smM s' 100))) := by rw [p10]; simp (disch := omega) only [m_ne]
      have s13 : ν3 (m + 13) = upd (ν (m + 13)) n (nI i) := by rw [p13]; simp (disch := omega) only [m_ne]
      have s14 : ν3 (m + 14) = upd (ν (m + 14)) n (nI ch) := by rw [p14]; simp (disch := omega) only [m_ne]
      have s15 : ν3 (m + 15) = upd (ν (m + 15)) n (nI (mkN μ (E + 1) c')) := by rw [p15]; simp (disch := omega) only [m_ne]
      have s16 : ν3 (m + 16) = upd (ν (m + 16)) n (nI (cWn c' 6)) := by rw [p16]; simp (disch := omega) only [m_ne]
      -- the class's side
      have pc : PrE E μ μc := fun a a1 a2 => by
        rw [c1 a (by omega) (by omega) (by omega) (by omega) (by omega) (by omega)]; exact pb a a1 a2
      have ec11 : μc (E + 11) = upd (μ (E + 11)) K (-4) := by
        rw [c1 _ (by omega) (by omega) (by omega) (by omega) (by omega) (by omega)]
        simp (disch := omega) only [m_ne, m_sa]
      have ec8 : μc (E + 1 + 8) = c' := by
        rw [c1 _ (by omega) (by omega) (by omega) (by omega) (by omega) (by omega)]; exact m_sa
      have ec15 : μc (E + 15) = μ (E + 15) := by
        rw [c1 _ (by omega) (by omega) (by omega) (by omega) (by omega) (by omega)]
        simp (disch := omega) only [m_ne]
      have ecE : μc E = upd (μ E) 11 (nI (n + 1)) := by rw [c2, eb0]
      have ec12 : μc (E + 12) = upd (μ (E + 12)) n (nI i) := by rw [c4]; simp (disch := omega) only [m_ne]
      have ec13 : μc (E + 13) = upd (μ (E + 13)) n (nI ch) := by rw [c5]; simp (disch := omega) only [m_ne]
      obtain ⟨d, di, hd⟩ := xt.dp hi
      have ec14 : μc (E + 14) = upd (μ (E + 14)) n (nI (d + 1)) := by
        rw [c6, if_neg (m4_n (by omega))]
        simp (disch := omega) only [m_ne]
        rw [hd, n_add]
      have Xd : XI0 E m (n + 1) K T μc (zmm ν3 m s' f3') := by
        refine ⟨⟨(C.cg pc.p).cgM ?_, by rw [pc _ (by omega) (by omega), pc _ (by omega) (by omega)]; exact lt, ?_⟩, X.2.1.add hn5 pc c3 ?_ ?_ ?_ W2m hno, xt.add (by omega) hi hch hd di ec12 ec13 ec14 ?_ ?_, xm.add pc c3 ?_ ?_, xn.add (fun j hj => by omega) c3 ?_ ?_ ?_, ⟨?_, es, es2, ?_, ?_⟩, xr.add hT pc c3 ec15 ?_, ⟨c7, HMo.add (s := s') xh.2 ?_ ?_ ?_ ?_⟩⟩
        · rw [mm_ne (by omega) (by omega)]; exact ro _ (by omega)
        · rw [mm_f, qf 3 (by omega) (by omega) (by omega) (by omega), f3e]; exact f3
        · rw [mm_ne (by omega) (by omega)]; exact s7
        · rw [ecE, u_at rfl]
        · rw [mm_f]; exact q17
        · rw [mm_ne (by omega) (by omega)]; exact s13
        · rw [mm_ne (by omega) (by omega)]; exact s14
        · rw [mm_ne (by omega) (by omega)]; exact s15
        · rw [mm_ne (by omega) (by omega)]; exact s16
        · intro j hj; rw [ec11, u_ne (by omega)]
        · intro j hj; rw [mm_ne (by omega) (by omega), r11, u_ne (by omega)]
        · intro j hj; rw [mm_ne (by omega) (by omega), r12, u_ne (by omega)]
        · rw [mm_f, qf 19 (by omega) (by omega) (by omega) (by omega), j19, cnN_cg K (fun j hj => by rw [ec11, u_ne (by omega)])]; exact xw
        · rw [ecE, u_ne (by omega)]; exact sp1
        · rw [mm_f, qf 18 (by omega) (by omega) (by omega) (by omega)]; exact sp2'
        · rw [ecE, u_ne (by omega)]
        · rw [mm_ne (by omega) (by omega)]; exact s7
        · rw [mm_ne (by omega) (by omega)]; exact s8
        · rw [mm_ne (by omega) (by omega)]; exact s9
        · rw [mm_ne (by omega) (by omega)]; exact s10
      have hovn : ovS (rC μc E n) = ovS (rC μc E (K / 6)) + e := by
        rw [Kd, rC_old c3 hi, ← hov]; exact ovS_cx (rC_new c3)
      refine ⟨zsa (zsa μc (E + 11) (upd (upd (μ (E + 11)) K (-4)) K (nI n))) (E + 1 + 8) (va_cpy (μc (E + 10)) c' (i * 100) 0 100), zmm (zsa ν3 (m + 11) (upd (upd (ν (m + 11)) K (-4)) K (nI n))) m s' (upd f3' 19 (f3' 19 + nI 1)), n + 1, by omega, ?_, ?_, Xd.nx (fun a a1 a2 => ?_) (fun a ha => ?_) ?_ (fun a ha => ?_) ?_ (fun j hj => ?_) (fun j hj => ?_) (fun j hj => ?_) ⟨es, es2, ?_, ?_⟩ K9 (Or.inr ⟨n, e, by omega, e2, ?_, ?_, ?_, hovn, ?_⟩), Y.add hi hch hK (fun j hj => ?_) ?_, ?_, ?_⟩
      · intro F ρ Q h2 h3 H
        simp -implicitDefEqProofs (disch := omega) only [zA0_ap, zA1_ap, zA2_ap, zA3_ap, zA4_ap, zA5_ap, v_fi, v_fz, v_fv, w_k, v_l, v_bin, v_biq, v_ald, v_tb, w_al, w_fd, v_cond, v_call, v_pi, w_an, v_ai, v_aq, v_cmp, v_cm0, w_cb, v_nt, v_and, v_or, w_sk, w_bk, w_cn, w_rv, v_rt, v_sq, v_se, v_ex, v_as, v_az, v_ao, v_pf, v_pz, v_fo, v_if, v_sw, v_lw, v_fl, v_cy, v_cyd, w_lr, wl_some, k_sq0, k_sq1, k_sq2, k_sq3, k_se, k_ex, k_rt, k_l, k_b2, k_b1, k_q2, k_q1, k_ald, k_tb, k_pi, k_condT, k_condF, k_condK, k_call, k_ac, k_ai, k_aq, k_c2, k_c1, k_c0, k_nt, k_andT, k_andF, k_orT, k_orF, k_as2, k_as1, k_az2, k_az1, k_ao2, k_ao1, k_pf, k_pz, k_fo, k_ifT, k_ifF, k_br0, k_br1, k_br2, k_br3, k_s0, k_s1, k_t1, k_s4, k_t4, k_s20, k_t20, zpk_n, zpk_z, zpk_s, k_lw, k_fl, k_cy3, k_cy2, k_cy1, k_cd2, k_cd1, k_w3, k_w20, k_w21, k_w22, k_w23, k_w1T, k_w1F, k_fi, k_fz1, k_fz0, k_fzi, k_fz, k_fv0, k_fv3, k_I, k_B0, k_B1, k_B2, k_B3, k_C, k_E, zenv, zup, ze0, n_add, n_mul, m_st, m_sa, m_ne, m_ss, mm_s, mm_f, mm_ne, mm_ss, mm_sf, Nat.zero_add, u_at, u_ne, if_true, if_false, ite_true, ite_false, reduceIte, and_self, and_true, true_and, or_true, true_or, or_false, false_or, or_self, and_false, false_and, Bool.not_true, Bool.not_false, decide_true, decide_false, ne_eq, n_eqT, n_eqF, n_ltT, n_ltF, n_leT, n_leF, n_z0, n_zF, n_o1, n_oF, n_p0, n_pF, n_lt0, n_ge0, zeq, zne, zlt, zle, zge, zgt, ziadd, zisub, zimul, ziand, zior, zixor, zishl, zishr, ziushr, zidiv, zirem, zmax, zmin, Bool.false_eq_true, not_true_eq_false, not_false_eq_true, Nat.reduceEqDiff, Nat.reduceAdd, Nat.reduceMul, Nat.reduceSub, v_wh, C_gi, L_gi, U_gi, h2, h3, hk6', e_psbT Ca Wa hch hp, k1, kQ, e_load (show i < 1500 by omega), ec11, ec8]
        exact H _ (by simp -implicitDefEqProofs (disch := omega) only [zA0_ap, zA1_ap, zA2_ap, zA3_ap, zA4_ap, zA5_ap, v_fi, v_fz, v_fv, w_k, v_l, v_bin, v_biq, v_ald, v_tb, w_al, w_fd, v_cond, v_call, v_pi, w_an, v_ai, v_aq, v_cmp, v_cm0, w_cb, v_nt, v_and, v_or, w_sk, w_bk, w_cn, w_rv, v_rt, v_sq, v_se, v_ex, v_as, v_az, v_ao, v_pf, v_pz, v_fo, v_if, v_sw, v_lw, v_fl, v_cy, v_cyd, w_lr, wl_some, k_sq0, k_sq1, k_sq2, k_sq3, k_se, k_ex, k_rt, k_l, k_b2, k_b1, k_q2, k_q1, k_ald, k_tb, k_pi, k_condT, k_condF, k_condK, k_call, k_ac, k_ai, k_aq, k_c2, k_c1, k_c0, k_nt, k_andT, k_andF, k_orT, k_orF, k_as2, k_as1, k_az2, k_az1, k_ao2, k_ao1, k_pf, k_pz, k_fo, k_ifT, k_ifF, k_br0, k_br1, k_br2, k_br3, k_s0, k_s1, k_t1, k_s4, k_t4, k_s20, k_t20, zpk_n, zpk_z, zpk_s, k_lw, k_fl, k_cy3, k_cy2, k_cy1, k_cd2, k_cd1, k_w3, k_w20, k_w21, k_w22, k_w23, k_w1T, k_w1F, k_fi, k_fz1, k_fz0, k_fzi, k_fz, k_fv0, k_fv3, k_I, k_B0, k_B1, k_B2, k_B3, k_C, k_E, zenv, zup, ze0, n_add, n_mul, m_st, m_sa, m_ne, m_ss, mm_s, mm_f, mm_ne, mm_ss, mm_sf, Nat.zero_add, u_at, u_ne, if_true, if_false, ite_true, ite_false, reduceIte, and_self, and_true, true_and, or_true, true_or, or_false, false_or, or_self, and_false, false_and, Bool.not_true, Bool.not_false, decide_true, decide_false, ne_eq, n_eqT, n_eqF, n_ltT, n_ltF, n_leT, n_leF, n_z0, n_zF, n_o1, n_oF, n_p0, n_pF, n_lt0, n_ge0, zeq, zne, zlt, zle, zge, zgt, ziadd, zisub, zimul, ziand, zior, zixor, zishl, zishr, ziushr, zidiv, zirem, zmax, zmin, Bool.false_eq_true, not_true_eq_false, not_false_eq_true, Nat.reduceEqDiff, Nat.reduceAdd, Nat.reduceMul, Nat.reduceSub, h2]) (by simp -implicitDefEqProofs (disch := omega) only [zA0_ap, zA1_ap, zA2_ap, zA3_ap, zA4_ap, zA5_ap, v_fi, v_fz, v_fv, w_k, v_l, v_bin, v_biq, v_ald, v_tb, w_al, w_fd, v_cond, v_call, v_pi, w_an, v_ai, v_aq, v_cmp, v_cm0, w_cb, v_nt, v_and, v_or, w_sk, w_bk, w_cn, w_rv, v_rt, v_sq, v_se, v_ex, v_as, v_az, v_ao, v_pf, v_pz, v_fo, v_if, v_sw, v_lw, v_fl, v_cy, v_cyd, w_lr, wl_some, k_sq0, k_sq1, k_sq2, k_sq3, k_se, k_ex, k_rt, k_l, k_b2, k_b1, k_q2, k_q1, k_ald, k_tb, k_pi, k_condT, k_condF, k_condK, k_call, k_ac, k_ai, k_aq, k_c2, k_c1, k_c0, k_nt, k_andT, k_andF, k_orT, k_orF, k_as2, k_as1, k_az2, k_az1, k_ao2, k_ao1, k_pf, k_pz, k_fo, k_ifT, k_ifF, k_br0, k_br1, k_br2, k_br3, k_s0, k_s1, k_t1, k_s4, k_t4, k_s20, k_t20, zpk_n, zpk_z, zpk_s, k_lw, k_fl, k_cy3, k_cy2, k_cy1, k_cd2, k_cd1, k_w3, k_w20, k_w21, k_w22, k_w23, k_w1T, k_w1F, k_fi, k_fz1, k_fz0, k_fzi, k_fz, k_fv0, k_fv3, k_I, k_B0, k_B1, k_B2, k_B3, k_C, k_E, zenv, zup, ze0, n_add, n_mul, m_st, m_sa, m_ne, m_ss, mm_s, mm_f, mm_ne, mm_ss, mm_sf, Nat.zero_add, u_at, u_ne, if_true, if_false, ite_true, ite_false, reduceIte, and_self, and_true, true_and, or_true, true_or, or_false, false_or, or_self, and_false, false_and, Bool.not_true, Bool.not_false, decide_true, decide_false, ne_eq, n_eqT, n_eqF, n_ltT, n_ltF, n_leT, n_leF, n_z0, n_zF, n_o1, n_oF, n_p0, n_pF, n_lt0, n_ge0, zeq, zne, zlt, zle, zge, zgt, ziadd, zisub, zimul, ziand, zior, zixor, zishl, zishr, ziushr, zidiv, zirem, zmax, zmin, Bool.false_eq_true, not_true_eq_false, not_false_eq_true, Nat.reduceEqDiff, Nat.reduceAdd, Nat.reduceMul, Nat.reduceSub])
      · intro Q
        have key : wr (M_X9_goesOn m [nI i, nI ch] (zmm ν m (ν (m + 3)) (ν m))) Q = Q 0 (zmm (zsa ν3 (m + 11) (upd (upd (ν (m + 11)) K (-4)) K (nI n))) m s' (upd f3' 19 (f3' 19 + nI 1))) := by
          simp only [M_X9_goesOn, B_X9_goesOn]
          simp -implicitDefEqProofs (disch := omega) only [zA0_ap, zA1_ap, zA2_ap, zA3_ap, zA4_ap, zA5_ap, v_fi, v_fz, v_fv, w_k, v_l, v_bin, v_biq, v_ald, v_tb, w_al, w_fd, v_cond, v_call, v_pi, w_an, v_ai, v_aq, v_cmp, v_cm0, w_cb, v_nt, v_and, v_or, w_sk, w_bk, w_cn, w_rv, v_rt, v_sq, v_se, v_ex, v_as, v_az, v_ao, v_pf, v_pz, v_fo, v_if, v_sw, v_lw, v_fl, v_cy, v_cyd, w_lr, wl_some, k_sq0, k_sq1, k_sq2, k_sq3, k_se, k_ex, k_rt, k_l, k_b2, k_b1, k_q2, k_q1, k_ald, k_tb, k_pi, k_condT, k_condF, k_condK, k_call, k_ac, k_ai, k_aq, k_c2, k_c1, k_c0, k_nt, k_andT, k_andF, k_orT, k_orF, k_as2, k_as1, k_az2, k_az1, k_ao2, k_ao1, k_pf, k_pz, k_fo, k_ifT, k_ifF, k_br0, k_br1, k_br2, k_br3, k_s0, k_s1, k_t1, k_s4, k_t4, k_s20, k_t20, zpk_n, zpk_z, zpk_s, k_lw, k_fl, k_cy3, k_cy2, k_cy1, k_cd2, k_cd1, k_w3, k_w20, k_w21, k_w22, k_w23, k_w1T, k_w1F, k_fi, k_fz1, k_fz0, k_fzi, k_fz, k_fv0, k_fv3, k_I, k_B0, k_B1, k_B2, k_B3, k_C, k_E, zenv, zup, ze0, n_add, n_mul, m_st, m_sa, m_ne, m_ss, mm_s, mm_f, mm_ne, mm_ss, mm_sf, Nat.zero_add, u_at, u_ne, if_true, if_false, ite_true, ite_false, reduceIte, and_self, and_true, true_and, or_true, true_or, or_false, false_or, or_self, and_false, false_and, Bool.not_true, Bool.not_false, decide_true, decide_false, ne_eq, n_eqT, n_eqF, n_ltT, n_ltF, n_leT, n_leF, n_z0, n_zF, n_o1, n_oF, n_p0, n_pF, n_lt0, n_ge0, zeq, zne, zlt, zle, zge, zgt, ziadd, zisub, zimul, ziand, zior, zixor, zishl, zishr, ziushr, zidiv, zirem, zmax, zmin, Bool.false_eq_true, not_true_eq_false, not_false_eq_true, Nat.reduceEqDiff, Nat.reduceAdd, Nat.reduceMul, Nat.reduceSub, hk6, mm_out, hld, g_psbT Ca Wa hch hp, k2, k4', g_sumNow, g1, m1_lt, j17, show ¬ n = 1500 by omega, gQ, r11]
        rw [hμ] at key
        exact key
      · rw [m_ne (by omega), m_ne (by omega)]
      · simp (disch := omega) only [m_ne]
      · exact ⟨by simp (disch := omega) only [m_ne], by simp (disch := omega) only [m_ne]⟩
      · simp (disch := omega) only [mm_ne, m_ne]
      · exact ⟨by simp (disch := omega) only [mm_f, u_ne], by simp (disch := omega) only [mm_f, u_ne]⟩
      · simp (disch := omega) only [m_ne, m_sa, u_ne, ec11]
      · simp (disch := omega) only [mm_ne, m_ne, m_sa, u_ne, r11]
      · simp (disch := omega) only [mm_ne, m_ne]
      · simp (disch := omega) only [m_ne]; rw [ecE, u_ne (by omega)]; exact sp1
      · simp (disch := omega) only [mm_f, u_ne]; rw [qf 18 (by omega) (by omega) (by omega) (by omega)]; exact sp2'
      · simp (disch := omega) only [m_ne, m_sa, u_at]
      · simp (disch := omega) only [mm_ne, m_sa, u_at]
      · simp (disch := omega) only [mm_ne, m_ne]; rw [r12, u_at rfl]; exact k4
      · simp (disch := omega) only [mm_f, u_at]
      · simp (disch := omega) only [m_ne, m_sa, u_ne]
      · simp (disch := omega) only [m_ne, m_sa, u_at]
      · refine ⟨?_, ?_⟩
        · rw [m_sa, rC_cg (μ := μc) (by simp (disch := omega) only [m_ne])]
          exact load_row
        · rw [m_sa]
          unfold deadZ at dc' ⊢
          simp only [Bool.false_eq_true, if_false] at dc' ⊢
          rw [load_out (by omega), load_out (by omega), load_out (by omega)]
          exact dc'
      · refine ⟨fun a ha => ?_, fun j hj => ?_, fun a ha => ?_, fun j a1 a2 a3 a4 a5 a6 a7 a8 => ?_⟩
        · rw [m_ne (by omega), m_ne (by omega), c1 a (by omega) (by omega) (by omega) (by omega) (by omega) (by omega)]
          simp (disch := omega) only [m_ne]
        · simp (disch := omega) only [m_ne]
          rw [ecE, u_ne (by omega)]
        · rw [mm_ne (by omega) (by omega), m_ne (by omega)]; exact ro a ha
        · rw [mm_f, u_ne a8, qf j a3 a4 a5 a6]; exact k3 j a1 a2
  · refine ⟨zsa μ (E + 11) (upd (μ (E + 11)) K (-4)), zmm (zsa ν (m + 11) (upd (ν (m + 11)) K (-4))) m s0 (ν m), n, Nat.le_refl _, ?_, ?_, X.nx pa (fun a ha => m_ne (by omega)) ?_ (fun a ha => ?_) ?_ (fun j hj => ?_) (fun j hj => ?_) (fun j hj => ?_) ⟨es, es2, ?_, ?_⟩ K9 (Or.inl ⟨?_, ?_, ?_⟩), Y.nx (fun j hj => ?_), ?_, ?_⟩
    · intro F ρ Q h2 h3 H
      simp -implicitDefEqProofs (disch := omega) only [zA0_ap, zA1_ap, zA2_ap, zA3_ap, zA4_ap, zA5_ap, v_fi, v_fz, v_fv, w_k, v_l, v_bin, v_biq, v_ald, v_tb, w_al, w_fd, v_cond, v_call, v_pi, w_an, v_ai, v_aq, v_cmp, v_cm0, w_cb, v_nt, v_and, v_or, w_sk, w_bk, w_cn, w_rv, v_rt, v_sq, v_se, v_ex, v_as, v_az, v_ao, v_pf, v_pz, v_fo, v_if, v_sw, v_lw, v_fl, v_cy, v_cyd, w_lr, wl_some, k_sq0, k_sq1, k_sq2, k_sq3, k_se, k_ex, k_rt, k_l, k_b2, k_b1, k_q2, k_q1, k_ald, k_tb, k_pi, k_condT, k_condF, k_condK, k_call, k_ac, k_ai, k_aq, k_c2, k_c1, k_c0, k_nt, k_andT, k_andF, k_orT, k_orF, k_as2, k_as1, k_az2, k_az1, k_ao2, k_ao1, k_pf, k_pz, k_fo, k_ifT, k_ifF, k_br0, k_br1, k_br2, k_br3, k_s0, k_s1, k_t1, k_s4, k_t4, k_s20, k_t20, zpk_n, zpk_z, zpk_s, k_lw, k_fl, k_cy3, k_cy2, k_cy1, k_cd2, k_cd1, k_w3, k_w20, k_w21, k_w22, k_w23, k_w1T, k_w1F, k_fi, k_fz1, k_fz0, k_fzi, k_fz, k_fv0, k_fv3, k_I, k_B0, k_B1, k_B2, k_B3, k_C, k_E, zenv, zup, ze0, n_add, n_mul, m_st, m_sa, m_ne, m_ss, mm_s, mm_f, mm_ne, mm_ss, mm_sf, Nat.zero_add, u_at, u_ne, if_true, if_false, ite_true, ite_false, reduceIte, and_self, and_true, true_and, or_true, true_or, or_false, false_or, or_self, and_false, false_and, Bool.not_true, Bool.not_false, decide_true, decide_false, ne_eq, n_eqT, n_eqF, n_ltT, n_ltF, n_leT, n_leF, n_z0, n_zF, n_o1, n_oF, n_p0, n_pF, n_lt0, n_ge0, zeq, zne, zlt, zle, zge, zgt, ziadd, zisub, zimul, ziand, zior, zixor, zishl, zishr, ziushr, zidiv, zirem, zmax, zmin, Bool.false_eq_true, not_true_eq_false, not_false_eq_true, Nat.reduceEqDiff, Nat.reduceAdd, Nat.reduceMul, Nat.reduceSub, v_wh, C_gi, L_gi, U_gi, h2, h3, hk6', e_psbF Ca Wa hch hp]
      exact H _ (by simp -implicitDefEqProofs (disch := omega) only [zA0_ap, zA1_ap, zA2_ap, zA3_ap, zA4_ap, zA5_ap, v_fi, v_fz, v_fv, w_k, v_l, v_bin, v_biq, v_ald, v_tb, w_al, w_fd, v_cond, v_call, v_pi, w_an, v_ai, v_aq, v_cmp, v_cm0, w_cb, v_nt, v_and, v_or, w_sk, w_bk, w_cn, w_rv, v_rt, v_sq, v_se, v_ex, v_as, v_az, v_ao, v_pf, v_pz, v_fo, v_if, v_sw, v_lw, v_fl, v_cy, v_cyd, w_lr, wl_some, k_sq0, k_sq1, k_sq2, k_sq3, k_se, k_ex, k_rt, k_l, k_b2, k_b1, k_q2, k_q1, k_ald, k_tb, k_pi, k_condT, k_condF, k_condK, k_call, k_ac, k_ai, k_aq, k_c2, k_c1, k_c0, k_nt, k_andT, k_andF, k_orT, k_orF, k_as2, k_as1, k_az2, k_az1, k_ao2, k_ao1, k_pf, k_pz, k_fo, k_ifT, k_ifF, k_br0, k_br1, k_br2, k_br3, k_s0, k_s1, k_t1, k_s4, k_t4, k_s20, k_t20, zpk_n, zpk_z, zpk_s, k_lw, k_fl, k_cy3, k_cy2, k_cy1, k_cd2, k_cd1, k_w3, k_w20, k_w21, k_w22, k_w23, k_w1T, k_w1F, k_fi, k_fz1, k_fz0, k_fzi, k_fz, k_fv0, k_fv3, k_I, k_B0, k_B1, k_B2, k_B3, k_C, k_E, zenv, zup, ze0, n_add, n_mul, m_st, m_sa, m_ne, m_ss, mm_s, mm_f, mm_ne, mm_ss, mm_sf, Nat.zero_add, u_at, u_ne, if_true, if_false, ite_true, ite_false, reduceIte, and_self, and_true, true_and, or_true, true_or, or_false, false_or, or_self, and_false, false_and, Bool.not_true, Bool.not_false, decide_true, decide_false, ne_eq, n_eqT, n_eqF, n_ltT, n_ltF, n_leT, n_leF, n_z0, n_zF, n_o1, n_oF, n_p0, n_pF, n_lt0, n_ge0, zeq, zne, zlt, zle, zge, zgt, ziadd, zisub, zimul, ziand, zior, zixor, zishl, zishr, ziushr, zidiv, zirem, zmax, zmin, Bool.false_eq_true, not_true_eq_false, not_false_eq_true, Nat.reduceEqDiff, Nat.reduceAdd, Nat.reduceMul, Nat.reduceSub, h2]) (by simp -implicitDefEqProofs (disch := omega) only [zA0_ap, zA1_ap, zA2_ap, zA3_ap, zA4_ap, zA5_ap, v_fi, v_fz, v_fv, w_k, v_l, v_bin, v_biq, v_ald, v_tb, w_al, w_fd, v_cond, v_call, v_pi, w_an, v_ai, v_aq, v_cmp, v_cm0, w_cb, v_nt, v_and, v_or, w_sk, w_bk, w_cn, w_rv, v_rt, v_sq, v_se, v_ex, v_as, v_az, v_ao, v_pf, v_pz, v_fo, v_if, v_sw, v_lw, v_fl, v_cy, v_cyd, w_lr, wl_some, k_sq0, k_sq1, k_sq2, k_sq3, k_se, k_ex, k_rt, k_l, k_b2, k_b1, k_q2, k_q1, k_ald, k_tb, k_pi, k_condT, k_condF, k_condK, k_call, k_ac, k_ai, k_aq, k_c2, k_c1, k_c0, k_nt, k_andT, k_andF, k_orT, k_orF, k_as2, k_as1, k_az2, k_az1, k_ao2, k_ao1, k_pf, k_pz, k_fo, k_ifT, k_ifF, k_br0, k_br1, k_br2, k_br3, k_s0, k_s1, k_t1, k_s4, k_t4, k_s20, k_t20, zpk_n, zpk_z, zpk_s, k_lw, k_fl, k_cy3, k_cy2, k_cy1, k_cd2, k_cd1, k_w3, k_w20, k_w21, k_w22, k_w23, k_w1T, k_w1F, k_fi, k_fz1, k_fz0, k_fzi, k_fz, k_fv0, k_fv3, k_I, k_B0, k_B1, k_B2, k_B3, k_C, k_E, zenv, zup, ze0, n_add, n_mul, m_st, m_sa, m_ne, m_ss, mm_s, mm_f, mm_ne, mm_ss, mm_sf, Nat.zero_add, u_at, u_ne, if_true, if_false, ite_true, ite_false, reduceIte, and_self, and_true, true_and, or_true, true_or, or_false, false_or, or_self, and_false, false_and, Bool.not_true, Bool.not_false, decide_true, decide_false, ne_eq, n_eqT, n_eqF, n_ltT, n_ltF, n_leT, n_leF, n_z0, n_zF, n_o1, n_oF, n_p0, n_pF, n_lt0, n_ge0, zeq, zne, zlt, zle, zge, zgt, ziadd, zisub, zimul, ziand, zior, zixor, zishl, zishr, ziushr, zidiv, zirem, zmax, zmin, Bool.false_eq_true, not_true_eq_false, not_false_eq_true, Nat.reduceEqDiff, Nat.reduceAdd, Nat.reduceMul, Nat.reduceSub])
    · intro Q
      have key : wr (M_X9_goesOn m [nI i, nI ch] (zmm ν m (ν (m + 3)) (ν m))) Q = Q 0 (zmm (zsa ν (m + 11) (upd (ν (m + 11)) K (-4))) m s0 (ν m)) := by
        simp only [M_X9_goesOn, B_X9_goesOn]
        simp -implicitDefEqProofs (disch := omega) only [zA0_ap, zA1_ap, zA2_ap, zA3_ap, zA4_ap, zA5_ap, v_fi, v_fz, v_fv, w_k, v_l, v_bin, v_biq, v_ald, v_tb, w_al, w_fd, v_cond, v_call, v_pi, w_an, v_ai, v_aq, v_cmp, v_cm0, w_cb, v_nt, v_and, v_or, w_sk, w_bk, w_cn, w_rv, v_rt, v_sq, v_se, v_ex, v_as, v_az, v_ao, v_pf, v_pz, v_fo, v_if, v_sw, v_lw, v_fl, v_cy, v_cyd, w_lr, wl_some, k_sq0, k_sq1, k_sq2, k_sq3, k_se, k_ex, k_rt, k_l, k_b2, k_b1, k_q2, k_q1, k_ald, k_tb, k_pi, k_condT, k_condF, k_condK, k_call, k_ac, k_ai, k_aq, k_c2, k_c1, k_c0, k_nt, k_andT, k_andF, k_orT, k_orF, k_as2, k_as1, k_az2, k_az1, k_ao2, k_ao1, k_pf, k_pz, k_fo, k_ifT, k_ifF, k_br0, k_br1, k_br2, k_br3, k_s0, k_s1, k_t1, k_s4, k_t4, k_s20, k_t20, zpk_n, zpk_z, zpk_s, k_lw, k_fl, k_cy3, k_cy2, k_cy1, k_cd2, k_cd1, k_w3, k_w20, k_w21, k_w22, k_w23, k_w1T, k_w1F, k_fi, k_fz1, k_fz0, k_fzi, k_fz, k_fv0, k_fv3, k_I, k_B0, k_B1, k_B2, k_B3, k_C, k_E, zenv, zup, ze0, n_add, n_mul, m_st, m_sa, m_ne, m_ss, mm_s, mm_f, mm_ne, mm_ss, mm_sf, Nat.zero_add, u_at, u_ne, if_true, if_false, ite_true, ite_false, reduceIte, and_self, and_true, true_and, or_true, true_or, or_false, false_or, or_self, and_false, false_and, Bool.not_true, Bool.not_false, decide_true, decide_false, ne_eq, n_eqT, n_eqF, n_ltT, n_ltF, n_leT, n_leF, n_z0, n_zF, n_o1, n_oF, n_p0, n_pF, n_lt0, n_ge0, zeq, zne, zlt, zle, zge, zgt, ziadd, zisub, zimul, ziand, zior, zixor, zishl, zishr, ziushr, zidiv, zirem, zmax, zmin, Bool.false_eq_true, not_true_eq_false, not_false_eq_true, Nat.reduceEqDiff, Nat.reduceAdd, Nat.reduceMul, Nat.reduceSub, hk6, mm_out, hld, g_psbF Ca Wa hch hp]
      rw [hμ] at key
      exact key
    · exact ⟨by rw [m_ne (by omega)], by rw [m_ne (by omega)]⟩
    · rw [mm_ne (by omega) (by omega), m_ne (by omega)]
    · exact ⟨by rw [mm_f], by rw [mm_f]⟩
    · rw [m_sa, u_ne (by omega)]
    · rw [mm_ne (by omega) (by omega), m_sa, u_ne (by omega)]
    · rw [mm_ne (by omega) (by omega), m_ne (by omega)]
    · rw [m_ne (by omega)]; exact sp1
    · rw [mm_f]; exact sp2
    · rw [m_sa, u_at rfl]
    · rw [mm_ne (by omega) (by omega), m_sa, u_at rfl]
    · rw [mm_f]
    · rw [m_sa, u_ne (by omega)]
    · unfold CE
      rw [ea, rC_cg (m_ne (by omega))]
      exact hc
    · refine ⟨fun a ha => m_ne (by omega), fun j hj => by rw [m_ne (by omega)], fun a ha => ?_, fun j _ _ _ _ _ _ _ _ => by rw [mm_f]⟩
      rw [mm_ne (by omega) (by omega), m_ne (by omega)]
end XST
