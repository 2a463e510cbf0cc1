section ZCAL
variable {w : zN} {S : zS} {κ : List (Nat × Nat)} {pc N B C : Nat} {vd : Bool}
def zPf (S : zS) (pc ci k : Nat) (ty : FieldType) : Prop := ∀ (w : zN) (x : zK), zOk w S x → ∀ (μ : zM) (n : Nat) (fl : List (Option (Option Nat))) (v : Int32) (H : Heap) (ls : Array Slot) (lo : List Loc) (st : List Value), zH w x μ H lo → n ∈ znm w → zsh w n = (2, ci, fl) → fl[k]? = some none → narrow ty (.int v) = .int v → fits ty (.int v) = true → (∀ (H1 : Heap) (lo1 : List Loc), zH w x (zst μ n k v) H1 lo1 → zW S x H1 lo1 (pc + 3) ls st) → zW S x H lo pc ls (.int v :: .ref (zad w n) :: st)
theorem zfs_set {ad : Nat → Nat} {fl : List (Option (Option Nat))} {f : Nat → Int32} {k : Nat} {v : Int32} (h : fl[k]? = some none) : zfs ad fl (upd f k v) = (zfs ad fl f).set k (.int v) := by
  apply List.ext_getElem?
  intro i
  unfold zfs
  by_cases hi : i = k
  · subst hi
    rw [List.getElem?_set_self (by rw [List.length_mapIdx]; exact (List.getElem?_eq_some_iff.mp h).1), List.getElem?_mapIdx, h]
    simp [zfv, upd]
  · rw [List.getElem?_set_ne (fun z => hi z.symm), List.getElem?_mapIdx, List.getElem?_mapIdx]
    cases fl[i]? with
    | none => rfl
    | some q =>
      rcases q with _ | _ | q
      · simp [zfv, upd, hi]
      · rfl
      · rfl
theorem zpf_own {C : String} {T : u_T} {N ci k i : Nat} {ty : FieldType} (ty0 : Nat → FieldType) (hty : ∀ k, k < N → parseFieldDescriptor (T k).2.2.1 = some (ty0 k)) (hnm : ∀ a, a < N → ∀ b, b < N → a ≠ b → (T a).2.1 ≠ (T b).2.1) (dd : decode S.1 pc = .ok (.putfield i, 3)) (hc : zcl[ci]? = some (C, T, N)) (hin : ∀ q ∈ u_ws C T N, q ∈ S.2.2.2.1) (hk : k < N) (hfin : (T k).2.2.2 = false) (ht : parseFieldDescriptor (T k).2.2.1 = some ty) (hw : Cond.fieldLink S.2.2.1 i (T k).1 (T k).2.1 (T k).2.2.1 ∈ S.2.2.2.1) : zPf S pc ci k ty := by
  intro w x hO μ n fl v H ls lo st hH hn hs hv hna hfi kk
  obtain ⟨q, h1, h2⟩ := zws_h hH hn
  rw [zce_2 hs] at h2
  have hp := fun H1 lo1 => zar_put (μ := μ) (f := upd (μ n) k v) (H1 := H1) (lo1 := lo1) hO h1 ((zce_2 hs).trans (by rw [zfs_set hv]))
  have hl : k < (zfs (zad w) fl (μ n)).length := by unfold zfs; rw [List.length_mapIdx]; exact (List.getElem?_eq_some_iff.mp hv).1
  obtain ⟨p, l, e, s, m, args, below, meth, c, Q⟩ := x
  obtain ⟨hx, hb, hml, hown, hts, hK, -⟩ := hO
  exact va_put hx hb hts hin ty0 hty hnm hown hK hH.1 hH.2.1 hH.2.2 q h2 hc k hk (hts _ hw) (fun _ h => h) hfin ht hna hfi hl dd fun H1 lo1 a1 a2 a3 => kk H1 lo1 (hp H1 lo1 a1 a2 a3)
theorem zpf_nest {C host : String} {T : u_T} {N ci k i : Nat} {ty : FieldType} (ty0 : Nat → FieldType) (hty : ∀ k, k < N → parseFieldDescriptor (T k).2.2.1 = some (ty0 k)) (hnm : ∀ a, a < N → ∀ b, b < N → a ≠ b → (T a).2.1 ≠ (T b).2.1) (dd : decode S.1 pc = .ok (.putfield i, 3)) (hc : zcl[ci]? = some (C, T, N)) (hin : ∀ q ∈ u_ws C T N, q ∈ S.2.2.2.1) (hk : k < N) (hfin : (T k).2.2.2 = false) (ht : parseFieldDescriptor (T k).2.2.1 = some ty) (hw : (S.2.2.1, i, (T k).1, (T k).2.1, (T k).2.2.1, host) ∈ zNW) : zPf S pc ci k ty := by
  intro w x hO μ n fl v H ls lo st hH hn hs hv hna hfi kk
  obtain ⟨q, h1, h2⟩ := zws_h hH hn
  rw [zce_2 hs] at h2
  have hp := fun H1 lo1 => zar_put (μ := μ) (f := upd (μ n) k v) (H1 := H1) (lo1 := lo1) hO h1 ((zce_2 hs).trans (by rw [zfs_set hv]))
  have hl : k < (zfs (zad w) fl (μ n)).length := by unfold zfs; rw [List.length_mapIdx]; exact (List.getElem?_eq_some_iff.mp hv).1
  obtain ⟨p, l, e, s, m, args, below, meth, c, Q⟩ := x
  obtain ⟨hx, hb, hml, hown, hts, hK, -, -, hG⟩ := hO
  exact va_putN hx hb hts hin ty0 hty hnm hown hK hH.1 hH.2.1 hH.2.2 q h2 hc k hk (va_Nw.use rfl (hG.2.1 _ hw)) (fun _ h => h) hfin ht hna hfi hl dd fun H1 lo1 a1 a2 a3 => kk H1 lo1 (hp H1 lo1 a1 a2 a3)
theorem zfit_i (v : Int32) : fits .int (.int v) = true := rfl
theorem znar_z {v : Int32} (h : v = 0 ∨ v = 1) : narrow .boolean (.int v) = .int v := by rcases h with rfl | rfl <;> rfl
theorem zfit_z {v : Int32} (h : v = 0 ∨ v = 1) : fits .boolean (.int v) = true := by rcases h with rfl | rfl <;> rfl
theorem zs_pf (p1 p2 : Nat) {n ci k : Nat} {fl : List (Option (Option Nat))} {e : zX} (h1 : zRv w S κ pc p1 n) (h2 : zEv w S κ 1 p1 p2 e) (h3 : zPf S p2 ci k .int) (hn : n ∈ znm w) (hs : zsh w n = (2, ci, fl)) (hf : fl[k]? = some none) (hr : zRch S.1 3 (p2 + 3) N) : zSj w S κ vd pc N B C (zpf n k e) := by
  intro x hO ρ μ t v ρ' μ' hq H ls lo hL hH k0 k1 k2 k3
  unfold zpf at hq
  split at hq
  · cases hq
  · rename_i u μ1 e1
    cases hq
    exact h1 x hO ρ μ H ls lo [] hL hH (h2 x hO ρ μ _ _ e1 H ls lo _ hL hH (by simp [zc, Value.category]) fun H1 lo1 hH1 => h3 w x hO _ n fl u H1 ls lo1 [] hH1 hn hs hf rfl (zfit_i u) fun H3 lo3 hH3 => zW_r hO hr (k0 rfl H3 ls lo3 hL hH3))
theorem zs_pz (p1 p2 : Nat) {n ci k : Nat} {fl : List (Option (Option Nat))} {e : zX} (h1 : zRv w S κ pc p1 n) (h2 : zEv w S κ 1 p1 p2 e) (h3 : zPf S p2 ci k .boolean) (hn : n ∈ znm w) (hs : zsh w n = (2, ci, fl)) (hf : fl[k]? = some none) (hr : zRch S.1 3 (p2 + 3) N) : zSj w S κ vd pc N B C (zpz n k e) := by
  intro x hO ρ μ t v ρ' μ' hq H ls lo hL hH k0 k1 k2 k3
  unfold zpz at hq
  split at hq
  · cases hq
  · rename_i u μ1 e1
    split at hq
    · rename_i hu
      cases hq
      exact h1 x hO ρ μ H ls lo [] hL hH (h2 x hO ρ μ _ _ e1 H ls lo _ hL hH (by simp [zc, Value.category]) fun H1 lo1 hH1 => h3 w x hO _ n fl u H1 ls lo1 [] hH1 hn hs hf (znar_z hu) (zfit_z hu) fun H3 lo3 hH3 => zW_r hO hr (k0 rfl H3 ls lo3 hL hH3))
    · cases hq
theorem zs_fo (p1 p2 p3 : Nat) {n ci k : Nat} {fl : List (Option (Option Nat))} {e : zX} {o : Int32 → Int32 → Int32} (h1 : zRv w S κ pc p1 n) (d1 : decode S.1 p1 = .ok (.dup, 1)) (h2 : zGf S (p1 + 1) ci k) (h3 : zEv w S κ 2 (p1 + 4) p2 e) (ho : zOp S p2 p3 o) (h4 : zPf S p3 ci k .int) (hn : n ∈ znm w) (hs : zsh w n = (2, ci, fl)) (hf : fl[k]? = some none) (hr : zRch S.1 3 (p3 + 3) N) : zSj w S κ vd pc N B C (zfo n k o e) := by
  intro x hO ρ μ t v ρ' μ' hq H ls lo hL hH k0 k1 k2 k3
  unfold zfo at hq
  split at hq
  · cases hq
  · rename_i u μ1 e1
    cases hq
    refine h1 x hO ρ μ H ls lo [] hL hH (zdup hO d1 rfl (h2 w x hO μ n fl _ H ls lo _ hH hn hs (zfs_get hf) ?_))
    exact h3 x hO ρ μ _ _ e1 H ls lo _ hL hH (by simp [zc, zfv, Value.category]) fun H1 lo1 hH1 => ho w x hO _ _ H1 ls lo1 _ (h4 w x hO _ n fl _ H1 ls lo1 [] hH1 hn hs hf rfl (zfit_i _) fun H3 lo3 hH3 => zW_r hO hr (k0 rfl H3 ls lo3 hL hH3))
theorem zs_if (p1 p2 : Nat) {c : zC} {a b : zT} (h1 : zCj w S κ 0 pc p1 p2 c) (h2 : zSj w S κ vd p1 N B C a) (h3 : zSj w S κ vd p2 N B C b) : zSj w S κ vd pc N B C (zif c a b) := by
  intro x hO ρ μ t v ρ' μ' hf H ls lo hL hH k0 k1 k2 k3
  unfold zif at hf
  split at hf
  · cases hf
  · rename_i μ1 e1
    exact h1 x hO ρ μ true μ1 e1 H ls lo [] hL hH (Nat.le_refl _) (fun H1 lo1 hH1 _ => h2 x hO ρ μ1 t v ρ' μ' hf H1 ls lo1 hL hH1 k0 k1 k2 k3) (fun H1 lo1 hH1 e => by cases e)
  · rename_i μ1 e1
    exact h1 x hO ρ μ false μ1 e1 H ls lo [] hL hH (Nat.le_refl _) (fun H1 lo1 hH1 e => by cases e) (fun H1 lo1 hH1 _ => h3 x hO ρ μ1 t v ρ' μ' hf H1 ls lo1 hL hH1 k0 k1 k2 k3)
theorem zs_wh (p1 p2 : Nat) {n : Nat} {c : zC} {b u : zT} (h1 : zCj w S κ 0 pc p1 N c) (h2 : zSj w S κ vd p1 p2 N p2 b) (h3 : zSj w S κ vd p2 pc 0 0 u) : zSj w S κ vd pc N B C (zwh n c b u) := by
  intro x hO
  induction n with
  | zero =>
    intro ρ μ t v ρ' μ' hf
    cases hf
  | succ n ih =>
    intro ρ μ t v ρ' μ' hf H ls lo hL hH k0 k1 k2 k3
    unfold zwh at hf
    split at hf
    · cases hf
    · rename_i μ1 e1
      cases hf
      exact h1 x hO ρ μ false _ e1 H ls lo [] hL hH (Nat.le_refl _) (fun H1 lo1 hH1 e => by cases e) (fun H1 lo1 hH1 _ => k0 rfl H1 ls lo1 hL hH1)
    · rename_i μ1 e1
      refine h1 x hO ρ μ true μ1 e1 H ls lo [] hL hH (Nat.le_refl _) (fun H1 lo1 hH1 _ => ?_) (fun H1 lo1 hH1 e => by cases e)
      split at hf
      · cases hf
      · rename_i t2 v2 ρ2 μ2 e2
        have go : (t2 = 0 ∨ t2 = 2) → ∀ (H' : Heap) (ls' : Array Slot) (lo' : List Loc), zL w S κ ls' ρ2 → zH w x μ2 H' lo' → zW S x H' lo' p2 ls' [] := by
          intro ht H2 ls2 lo2 hL2 hH2
          rw [if_neg (by omega), if_neg (by omega)] at hf
          split at hf
          · cases hf
          · rename_i t3 v3 ρ3 μ3 e3
            split at hf
            · rename_i ht3
              exact h3 x hO _ _ _ _ _ _ e3 H2 ls2 lo2 hL2 hH2 (fun _ H3 ls3 lo3 hL3 hH3 => ih _ _ _ _ _ _ hf H3 ls3 lo3 hL3 hH3 k0 k1 k2 k3) (fun q => by omega) (fun q => by omega) (fun q => by omega)
            · cases hf
        refine h2 x hO _ _ _ _ _ _ e2 H1 ls lo1 hL hH1 (fun q => go (Or.inl q)) (fun q => ?_) (fun q => go (Or.inr q)) (fun q => ?_)
        · subst q
          rw [if_pos rfl] at hf
          cases hf
          exact k0 rfl
        · subst q
          rw [if_neg (by decide), if_pos rfl] at hf
          cases hf
          exact k3 rfl
theorem zs_lrn (p1 : Nat) {i n : Nat} {j : Fin 4} {b : zT} (h1 : zRv w S κ pc p1 n) (dd : decode S.1 p1 = .ok (.astore_n j, 1)) (hi : (j : Nat) = i) (hl : i < S.2.1) (hκ : ∀ q ∈ κ, q.1 ≠ i) (h2 : zSj w S ((i, n) :: κ) vd (p1 + 1) N B C b) : zSj w S κ vd pc N B C (zlr i b) := by
  intro x hO ρ μ t v ρ' μ' hf H ls lo hL hH k0 k1 k2 k3
  unfold zlr at hf
  refine h1 x hO ρ μ H ls lo [] hL hH ?_
  have weak : ∀ {ls' : Array Slot} {ρ1 : zE}, zL w S ((i, n) :: κ) ls' ρ1 → zL w S κ ls' ρ1 := fun h => ⟨h.1, h.2.1, h.2.2.1, fun q hq => h.2.2.2 q (List.mem_cons_of_mem _ hq)⟩
  have go := fun ls' hL' => h2 x hO _ _ _ _ _ _ hf H ls' lo hL' hH (fun q H1 ls1 lo1 hL1 hH1 => k0 q H1 ls1 lo1 (weak hL1) hH1) (fun q H1 ls1 lo1 hL1 hH1 => k1 q H1 ls1 lo1 (weak hL1) hH1) (fun q H1 ls1 lo1 hL1 hH1 => k2 q H1 ls1 lo1 (weak hL1) hH1) k3
  have hl0 : lv_has ls S.2.1 ((List.range S.2.1).filterMap (fun k => (ρ k).map (fun v => (k, Value.int v))) ++ κ.map (fun q => (q.1, Value.ref (zad w q.2)))) := (zL_set (v := 0) (i := i) hL hl hκ).elim fun lv h => ⟨hL.1, hL.2.1, fun q hq => by
    rcases List.mem_append.mp hq with hq | hq
    · obtain ⟨k, -, hk⟩ := List.mem_filterMap.mp hq
      cases hr : ρ k with
      | none => rw [hr] at hk; cases hk
      | some u =>
        rw [hr] at hk
        cases hk
        exact hL.2.2.1 k u hr
    · obtain ⟨p, hp, rfl⟩ := List.mem_map.mp hq
      exact hL.2.2.2 p hp⟩
  have fin : ∀ ls' : Array Slot, lv_has ls' S.2.1 ((i, Value.ref (zad w n)) :: ((List.range S.2.1).filterMap (fun k => (ρ k).map (fun v => (k, Value.int v))) ++ κ.map (fun q => (q.1, Value.ref (zad w q.2)))).filter (fun q => !(q.1 == i) && !(q.1 + 1 == i && q.2.category == 2))) → zL w S ((i, n) :: κ) ls' (fun k => if k = i then none else ρ k) := by
    intro ls' h
    refine ⟨h.1, h.2.1, fun k u hk => ?_, fun q hq => ?_⟩
    · dsimp only at hk
      by_cases hki : k = i
      · rw [if_pos hki] at hk; cases hk
      · rw [if_neg hki] at hk
        refine h.2.2 (k, Value.int u) (List.mem_cons_of_mem _ (List.mem_filter.mpr ⟨List.mem_append_left _ (List.mem_filterMap.mpr ⟨k, List.mem_range.mpr ?_, by rw [hk]; rfl⟩), ?_⟩))
        · have := (Array.getElem?_eq_some_iff.mp (hL.2.2.1 k u hk)).1
          have := hL.1
          omega
        · simp [hki, Value.category]
    · rcases List.mem_cons.mp hq with rfl | hq
      · exact h.2.2 _ List.mem_cons_self
      · refine h.2.2 (q.1, Value.ref (zad w q.2)) (List.mem_cons_of_mem _ (List.mem_filter.mpr ⟨List.mem_append_right _ (List.mem_map.mpr ⟨q, hq, rfl⟩), ?_⟩))
        simp [hκ q hq, Value.category]
  obtain ⟨p, l, e, s, m, args, below, meth, c, Q⟩ := x
  exact lv_astore_n hO.1 hO.2.1 dd hi hl0 hl rfl fun ls' h => go ls' (fin ls' h)
end ZCAL
