section ZSTM
variable {w : zN} {S : zS} {κ : List (Nat × Nat)} {pc N B C : Nat} {vd : Bool}
theorem zup_self (ρ : zE) (k : Nat) (v : Int32) : zup ρ k v k = some v := by simp [zup]
theorem zL_set {ls : Array Slot} {ρ : zE} {i : Nat} {v : Int32} (hL : zL w S κ ls ρ) (hi : i < S.2.1) (hκ : ∀ q ∈ κ, q.1 ≠ i) : ∃ lv : List (Nat × Value), lv_has ls S.2.1 lv ∧ ∀ ls', lv_has ls' S.2.1 ((i, Value.int v) :: lv.filter (fun q => !(q.1 == i) && !(q.1 + 1 == i && q.2.category == 2))) → zL w S κ ls' (zup ρ i v) := by
  obtain ⟨h1, h2, h3, h4⟩ := hL
  refine ⟨(List.range S.2.1).filterMap (fun k => (ρ k).map (fun v => (k, Value.int v))) ++ κ.map (fun q => (q.1, Value.ref (zad w q.2))), ⟨h1, h2, fun q hq => ?_⟩, fun ls' h => ⟨h.1, h.2.1, fun k u hk => ?_, fun q hq => ?_⟩⟩
  · rcases List.mem_append.mp hq with hq | hq
    · obtain ⟨k, -, hk⟩ := List.mem_filterMap.mp hq
      cases hr : ρ k with
      | none => rw [hr] at hk; cases hk
      | some u =>
        rw [hr] at hk
        cases hk
        exact h3 k u hr
    · obtain ⟨p, hp, rfl⟩ := List.mem_map.mp hq
      exact h4 p hp
  · unfold zup at hk
    by_cases hki : k = i
    · subst hki
      rw [if_pos rfl] at hk
      cases hk
      exact h.2.2 (k, Value.int v) List.mem_cons_self
    · rw [if_neg hki] at hk
      refine h.2.2 (k, Value.int u) (List.mem_cons_of_mem _ (List.mem_filter.mpr ⟨List.mem_append_left _ (List.mem_filterMap.mpr ⟨k, List.mem_range.mpr ?_, by rw [hk]; rfl⟩), ?_⟩))
      · have := (Array.getElem?_eq_some_iff.mp (h3 k u hk)).1
        omega
      · simp [hki, Value.category]
  · refine h.2.2 (q.1, Value.ref (zad w q.2)) (List.mem_cons_of_mem _ (List.mem_filter.mpr ⟨List.mem_append_right _ (List.mem_map.mpr ⟨q, hq, rfl⟩), ?_⟩))
    simp [hκ q hq, Value.category]
theorem zs_sk (h : zRch S.1 3 pc N) : zSj w S κ vd pc N B C zsk := by
  intro x hO ρ μ t v ρ' μ' hf H ls lo hL hH k0 k1 k2 k3
  cases hf
  exact zW_r hO h (k0 rfl H ls lo hL hH)
theorem zs_no : zSj w S κ vd pc N B C zno := by
  intro x hO ρ μ t v ρ' μ' hf
  cases hf
theorem zs_bk (h : zRch S.1 3 pc B) : zSj w S κ vd pc N B C zbk := by
  intro x hO ρ μ t v ρ' μ' hf H ls lo hL hH k0 k1 k2 k3
  cases hf
  exact zW_r hO h (k1 rfl H ls lo hL hH)
theorem zs_cn (h : zRch S.1 3 pc C) : zSj w S κ vd pc N B C zcn := by
  intro x hO ρ μ t v ρ' μ' hf H ls lo hL hH k0 k1 k2 k3
  cases hf
  exact zW_r hO h (k2 rfl H ls lo hL hH)
theorem zs_rv (h : decode S.1 pc = .ok (.return_, 1)) : zSj w S κ true pc N B C zrv := by
  intro x hO ρ μ t v ρ' μ' hf H ls lo hL hH k0 k1 k2 k3
  cases hf
  exact k3 rfl H lo hH pc ls h
theorem zs_rt (p1 : Nat) {e : zX} (h1 : zEv w S κ 0 pc p1 e) (h : decode S.1 p1 = .ok (.ireturn, 1)) : zSj w S κ false pc N B C (zrt e) := by
  intro x hO ρ μ t v ρ' μ' hf H ls lo hL hH k0 k1 k2 k3
  unfold zrt at hf
  split at hf
  · cases hf
  · rename_i u μ1 e1
    cases hf
    exact h1 x hO ρ μ _ _ e1 H ls lo [] hL hH (Nat.le_refl _) fun H1 lo1 hH1 => k3 rfl H1 lo1 hH1 p1 ls h
theorem zs_sq (p1 : Nat) {a b : zT} (h1 : zSj w S κ vd pc p1 B C a) (h2 : zSj w S κ vd p1 N B C b) : zSj w S κ vd pc N B C (zsq a b) := by
  intro x hO ρ μ t v ρ' μ' hf H ls lo hL hH k0 k1 k2 k3
  unfold zsq at hf
  split at hf
  · cases hf
  · rename_i t1 v1 ρ1 μ1 e1
    split at hf
    · rename_i ht
      exact h1 x hO ρ μ _ _ _ _ e1 H ls lo hL hH (fun _ H1 ls1 lo1 hL1 hH1 => h2 x hO _ _ _ _ _ _ hf H1 ls1 lo1 hL1 hH1 k0 k1 k2 k3) (fun q => by omega) (fun q => by omega) (fun q => by omega)
    · rename_i ht
      cases hf
      exact h1 x hO ρ μ _ _ _ _ e1 H ls lo hL hH (fun q => absurd q ht) k1 k2 k3
theorem zs_sen (p1 : Nat) {i : Nat} {j : Fin 4} {e : zX} (h1 : zEv w S κ 0 pc p1 e) (dd : decode S.1 p1 = .ok (.istore_n j, 1)) (hi : (j : Nat) = i) (hl : i < S.2.1) (hκ : ∀ q ∈ κ, q.1 ≠ i) (hr : zRch S.1 3 (p1 + 1) N) : zSj w S κ vd pc N B C (zse i e) := by
  intro x hO ρ μ t v ρ' μ' hf H ls lo hL hH k0 k1 k2 k3
  unfold zse at hf
  split at hf
  · cases hf
  · rename_i u μ1 e1
    cases hf
    refine h1 x hO ρ μ _ _ e1 H ls lo [] hL hH (Nat.le_refl _) fun H1 lo1 hH1 => ?_
    obtain ⟨lv, g1, g2⟩ := zL_set (v := u) hL hl hκ
    have k0 := fun ls' hL' => zW_r hO hr (k0 rfl H1 ls' lo1 hL' hH1)
    obtain ⟨p, l, e, s, m, args, below, meth, c, Q⟩ := x
    exact lv_istore_n hO.1 hO.2.1 dd hi g1 hl rfl fun ls' h => k0 ls' (g2 ls' h)
theorem zs_se (p1 : Nat) {i : Nat} {e : zX} (h1 : zEv w S κ 0 pc p1 e) (dd : decode S.1 p1 = .ok (.istore i, 2)) (hl : i < S.2.1) (hκ : ∀ q ∈ κ, q.1 ≠ i) (hr : zRch S.1 3 (p1 + 2) N) : zSj w S κ vd pc N B C (zse i e) := by
  intro x hO ρ μ t v ρ' μ' hf H ls lo hL hH k0 k1 k2 k3
  unfold zse at hf
  split at hf
  · cases hf
  · rename_i u μ1 e1
    cases hf
    refine h1 x hO ρ μ _ _ e1 H ls lo [] hL hH (Nat.le_refl _) fun H1 lo1 hH1 => ?_
    obtain ⟨lv, g1, g2⟩ := zL_set (v := u) hL hl hκ
    have k0 := fun ls' hL' => zW_r hO hr (k0 rfl H1 ls' lo1 hL' hH1)
    obtain ⟨p, l, e, s, m, args, below, meth, c, Q⟩ := x
    exact lv_istore hO.1 hO.2.1 dd g1 hl rfl fun ls' h => k0 ls' (g2 ls' h)
theorem zs_inc {i : Nat} {n : Int} {z : Int32} (dd : decode S.1 pc = .ok (.iinc i n, 3)) (hz : Int32.ofInt n = z) (hl : i < S.2.1) (hκ : ∀ q ∈ κ, q.1 ≠ i) (hr : zRch S.1 3 (pc + 3) N) : zSj w S κ vd pc N B C (zse i (zbin ziadd (zl i) (zk z))) := by
  intro x hO ρ μ t v ρ' μ' hf H ls lo hL hH k0 k1 k2 k3
  unfold zse zbin zl zk at hf
  cases hv : ρ i with
  | none => simp only [hv] at hf; cases hf
  | some u =>
    simp only [hv] at hf
    cases hf
    have hread := hL.2.2.1 i u hv
    obtain ⟨lv, g1, g2⟩ := zL_set (v := u + z) hL hl hκ
    have g1' : lv_has ls S.2.1 ((i, Value.int u) :: lv) := ⟨g1.1, g1.2.1, fun q hq => by
      rcases List.mem_cons.mp hq with rfl | hq
      · exact hread
      · exact g1.2.2 q hq⟩
    have k0 := fun ls' hL' => zW_r hO hr (k0 rfl H ls' lo hL' hH)
    obtain ⟨p, l, e, s, m, args, below, meth, c, Q⟩ := x
    exact lv_iinc hO.1 hO.2.1 dd g1' (k := 0) rfl (by rw [hz]) hl rfl fun ls' h => k0 ls' (g2 ls' ⟨h.1, h.2.1, fun q hq => h.2.2 q (by simpa using hq)⟩)
theorem zs_ex (p1 : Nat) {e : zX} (h1 : zEv w S κ 0 pc p1 e) (dd : decode S.1 p1 = .ok (.pop, 1)) (hr : zRch S.1 3 (p1 + 1) N) : zSj w S κ vd pc N B C (zex e) := by
  intro x hO ρ μ t v ρ' μ' hf H ls lo hL hH k0 k1 k2 k3
  unfold zex at hf
  split at hf
  · cases hf
  · rename_i u μ1 e1
    cases hf
    refine h1 x hO ρ μ _ _ e1 H ls lo [] hL hH (Nat.le_refl _) fun H1 lo1 hH1 => ?_
    have k0 := zW_r hO hr (k0 rfl H1 ls lo1 hL hH1)
    obtain ⟨p, l, e, s, m, args, below, meth, c, Q⟩ := x
    exact lv_pop hO.1 hO.2.1 dd rfl k0
/-! stores -/
theorem zar_put {x : zK} {μ : zM} {n : Nat} {f : Nat → Int32} {H1 : Heap} {lo1 : List Loc} {q : Nat} {a : va_E} (hO : zOk w S x) (hq : (znm w)[q]? = some n) (ha : zce w n f = a) (h1 : va_P (zD w) zcl ((zws w μ).set q (zad w n, a)) H1) (h2 : va_D (zFr w) ((zws w μ).set q (zad w n, a))) (h3 : va_S (zFr w) x.2.2.2.1.heap H1 lo1) : zH w x (zsa μ n f) H1 lo1 := by
  have hn : (znm w).Nodup := by
    obtain ⟨p, l, e, s, m, args, below, meth, c, Q⟩ := x
    exact hO.2.2.2.2.2.2.2.1
  rw [← ha, zws_set hn hq] at h1 h2
  exact ⟨h1, h2, h3⟩
theorem zio {x : zK} {μ : zM} {n len : Nat} {fl : List (Option (Option Nat))} {i v : Int32} {H : Heap} {ls : Array Slot} {lo : List Loc} {st : List Value} (hO : zOk w S x) (hH : zH w x μ H lo) (hn : n ∈ znm w) (hs : zsh w n = (0, len, fl)) (hin : zib i len) (dd : decode S.1 pc = .ok (.iastore, 1)) (k : ∀ (H1 : Heap) (lo1 : List Loc), zH w x (zst μ n i.toInt.toNat v) H1 lo1 → zW S x H1 lo1 (pc + 1) ls st) : zW S x H lo pc ls (.int v :: .int i :: .ref (zad w n) :: st) := by
  obtain ⟨q, h1, h2⟩ := zws_h hH hn
  rw [zce_0 hs] at h2
  have hp := fun f H1 lo1 => zar_put (μ := μ) (f := f) (H1 := H1) (lo1 := lo1) hO h1 (zce_0 hs)
  obtain ⟨p, l, e, s, m, args, below, meth, c, Q⟩ := x
  obtain ⟨hx, hb, hml, hown, hts, hK, -⟩ := hO
  exact va_iast hx hb hK hH.1 hH.2.1 hH.2.2 q 0 h2 rfl (zib_in hin) dd fun H1 lo1 a1 a2 a3 => k H1 lo1 (hp _ H1 lo1 a1 a2 a3)
theorem znz {v : Int32} (h : v = 0 ∨ v = 1) : vp_nar .boolean v = v := by
  rcases h with rfl | rfl <;> rfl
theorem zio_z {x : zK} {μ : zM} {n len : Nat} {fl : List (Option (Option Nat))} {i v : Int32} {H : Heap} {ls : Array Slot} {lo : List Loc} {st : List Value} (hO : zOk w S x) (hH : zH w x μ H lo) (hn : n ∈ znm w) (hs : zsh w n = (1, len, fl)) (hin : zib i len) (hv : v = 0 ∨ v = 1) (dd : decode S.1 pc = .ok (.bastore, 1)) (k : ∀ (H1 : Heap) (lo1 : List Loc), zH w x (zst μ n i.toInt.toNat v) H1 lo1 → zW S x H1 lo1 (pc + 1) ls st) : zW S x H lo pc ls (.int v :: .int i :: .ref (zad w n) :: st) := by
  obtain ⟨q, h1, h2⟩ := zws_h hH hn
  rw [zce_1 hs] at h2
  have hp := fun f H1 lo1 => zar_put (μ := μ) (f := f) (H1 := H1) (lo1 := lo1) hO h1 (zce_1 hs)
  obtain ⟨p, l, e, s, m, args, below, meth, c, Q⟩ := x
  obtain ⟨hx, hb, hml, hown, hts, hK, -⟩ := hO
  exact va_zast hx hb hK hH.1 hH.2.1 hH.2.2 q 1 h2 rfl (zib_in hin) dd fun H1 lo1 a1 a2 a3 => k H1 lo1 (hp _ H1 lo1 (by rw [znz hv] at a1; exact a1) (by rw [znz hv] at a2; exact a2) a3)
theorem zs_as (p1 p2 p3 : Nat) {n len : Nat} {fl : List (Option (Option Nat))} {a e : zX} (h1 : zRv w S κ pc p1 n) (h2 : zEv w S κ 1 p1 p2 a) (h3 : zEv w S κ 2 p2 p3 e) (hn : n ∈ znm w) (hs : zsh w n = (0, len, fl)) (dd : decode S.1 p3 = .ok (.iastore, 1)) (hr : zRch S.1 3 (p3 + 1) N) : zSj w S κ vd pc N B C (zas n len a e) := by
  intro x hO ρ μ t v ρ' μ' hf H ls lo hL hH k0 k1 k2 k3
  unfold zas at hf
  split at hf
  · cases hf
  · rename_i i μ1 e1
    split at hf
    · cases hf
    · rename_i u μ2 e2
      split at hf
      · rename_i hin
        cases hf
        exact h1 x hO ρ μ H ls lo [] hL hH (h2 x hO ρ μ _ _ e1 H ls lo _ hL hH (by simp [zc, Value.category]) fun H1 lo1 hH1 => h3 x hO ρ _ _ _ e2 H1 ls lo1 _ hL hH1 (by simp [zc, Value.category]) fun H2 lo2 hH2 => zio hO hH2 hn hs hin dd fun H3 lo3 hH3 => zW_r hO hr (k0 rfl H3 ls lo3 hL hH3))
      · cases hf
theorem zs_az (p1 p2 p3 : Nat) {n len : Nat} {fl : List (Option (Option Nat))} {a e : zX} (h1 : zRv w S κ pc p1 n) (h2 : zEv w S κ 1 p1 p2 a) (h3 : zEv w S κ 2 p2 p3 e) (hn : n ∈ znm w) (hs : zsh w n = (1, len, fl)) (dd : decode S.1 p3 = .ok (.bastore, 1)) (hr : zRch S.1 3 (p3 + 1) N) : zSj w S κ vd pc N B C (zaz n len a e) := by
  intro x hO ρ μ t v ρ' μ' hf H ls lo hL hH k0 k1 k2 k3
  unfold zaz at hf
  split at hf
  · cases hf
  · rename_i i μ1 e1
    split at hf
    · cases hf
    · rename_i u μ2 e2
      split at hf
      · rename_i hin
        cases hf
        exact h1 x hO ρ μ H ls lo [] hL hH (h2 x hO ρ μ _ _ e1 H ls lo _ hL hH (by simp [zc, Value.category]) fun H1 lo1 hH1 => h3 x hO ρ _ _ _ e2 H1 ls lo1 _ hL hH1 (by simp [zc, Value.category]) fun H2 lo2 hH2 => zio_z hO hH2 hn hs hin.1 hin.2 dd fun H3 lo3 hH3 => zW_r hO hr (k0 rfl H3 ls lo3 hL hH3))
      · cases hf
theorem zdup2 {x : zK} {a b : Value} {H : Heap} {ls : Array Slot} {lo : List Loc} {st : List Value} (hO : zOk w S x) (dd : decode S.1 pc = .ok (.dup2, 1)) (ha : a.category = 1) (hb : b.category = 1) (k : zW S x H lo (pc + 1) ls (a :: b :: a :: b :: st)) : zW S x H lo pc ls (a :: b :: st) := by
  obtain ⟨p, l, e, s, m, args, below, meth, c, Q⟩ := x
  exact lv_dup2_11 hO.1 hO.2.1 dd ha hb k
theorem zdup {x : zK} {a : Value} {H : Heap} {ls : Array Slot} {lo : List Loc} {st : List Value} (hO : zOk w S x) (dd : decode S.1 pc = .ok (.dup, 1)) (ha : a.category = 1) (k : zW S x H lo (pc + 1) ls (a :: a :: st)) : zW S x H lo pc ls (a :: st) := by
  obtain ⟨p, l, e, s, m, args, below, meth, c, Q⟩ := x
  exact lv_dup hO.1 hO.2.1 dd ha k
theorem zil {x : zK} {μ : zM} {n len : Nat} {fl : List (Option (Option Nat))} {i : Int32} {H : Heap} {ls : Array Slot} {lo : List Loc} {st : List Value} (hO : zOk w S x) (hH : zH w x μ H lo) (hn : n ∈ znm w) (hs : zsh w n = (0, len, fl)) (hin : zib i len) (dd : decode S.1 pc = .ok (.iaload, 1)) (k : zW S x H lo (pc + 1) ls (.int (μ n i.toInt.toNat) :: st)) : zW S x H lo pc ls (.int i :: .ref (zad w n) :: st) := by
  obtain ⟨q, h1, h2⟩ := zws_h hH hn
  rw [zce_0 hs] at h2
  obtain ⟨p, l, e, s, m, args, below, meth, c, Q⟩ := x
  obtain ⟨hx, hb, hml, hown, hts, hK, -⟩ := hO
  exact va_iald hx hb hK hH.1 q 0 h2 rfl (zib_in hin) dd k
theorem zs_ao (p1 p2 p3 p4 : Nat) {n len : Nat} {fl : List (Option (Option Nat))} {a e : zX} {o : Int32 → Int32 → Int32} (h1 : zRv w S κ pc p1 n) (h2 : zEv w S κ 1 p1 p2 a) (d1 : decode S.1 p2 = .ok (.dup2, 1)) (d2 : decode S.1 (p2 + 1) = .ok (.iaload, 1)) (h3 : zEv w S κ 3 (p2 + 2) p3 e) (ho : zOp S p3 p4 o) (hn : n ∈ znm w) (hs : zsh w n = (0, len, fl)) (dd : decode S.1 p4 = .ok (.iastore, 1)) (hr : zRch S.1 3 (p4 + 1) N) : zSj w S κ vd pc N B C (zao n len a o e) := by
  intro x hO ρ μ t v ρ' μ' hf H ls lo hL hH k0 k1 k2 k3
  unfold zao at hf
  split at hf
  · cases hf
  · rename_i i μ1 e1
    split at hf
    · rename_i hin
      split at hf
      · cases hf
      · rename_i u μ2 e2
        cases hf
        refine h1 x hO ρ μ H ls lo [] hL hH (h2 x hO ρ μ _ _ e1 H ls lo _ hL hH (by simp [zc, Value.category]) fun H1 lo1 hH1 => zdup2 hO d1 rfl rfl (zil hO hH1 hn hs hin d2 ?_))
        exact h3 x hO ρ _ _ _ e2 H1 ls lo1 _ hL hH1 (by simp [zc, Value.category]) fun H2 lo2 hH2 => ho w x hO _ _ H2 ls lo2 _ (zio hO hH2 hn hs hin dd fun H3 lo3 hH3 => zW_r hO hr (k0 rfl H3 ls lo3 hL hH3))
    · cases hf
theorem ze_pi (p1 p2 : Nat) {d n len : Nat} {fl : List (Option (Option Nat))} {a : zX} (h1 : zRv w S κ pc p1 n) (h2 : zEv w S κ (d + 1) p1 p2 a) (d1 : decode S.1 p2 = .ok (.dup2, 1)) (d2 : decode S.1 (p2 + 1) = .ok (.iaload, 1)) (d3 : decode S.1 (p2 + 2) = .ok (.iconst 1, 1)) (d4 : decode S.1 (p2 + 3) = .ok (.iadd, 1)) (d5 : decode S.1 (p2 + 4) = .ok (.dup_x2, 1)) (hn : n ∈ znm w) (hs : zsh w n = (0, len, fl)) (dd : decode S.1 (p2 + 5) = .ok (.iastore, 1)) : zEv w S κ d pc (p2 + 6) (zpi n len a) := by
  intro x hO ρ μ v' μ' hf H ls lo st hL hH hc k
  unfold zpi at hf
  split at hf
  · cases hf
  · rename_i i μ1 e1
    split at hf
    · rename_i hin
      cases hf
      refine h1 x hO ρ μ H ls lo st hL hH (h2 x hO ρ μ _ _ e1 H ls lo _ hL hH (by rw [zc_ref]; omega) fun H1 lo1 hH1 => zdup2 hO d1 rfl rfl (zil hO hH1 hn hs hin d2 (zpu_iconst (v := 1) d3 rfl w x hO H1 ls lo1 _ (zop_iadd d4 w x hO _ _ H1 ls lo1 _ ?_))))
      have k := zio (v := μ1 n i.toInt.toNat + 1) (ls := ls) hO hH1 hn hs hin dd fun H3 lo3 hH3 => k H3 lo3 hH3
      obtain ⟨p, l, e, s, m, args, below, meth, c, Q⟩ := x
      exact lv_dup_x2 hO.1 hO.2.1 d5 rfl rfl rfl k
    · cases hf
end ZSTM
