/-! A METHOD'S CONTRACT IN A WORLD OF ITS OWN, used in a larger one: what it doesn't name stays; a row that is only read -/
section LIFT
variable {w : zN} {N : List Nat} {μ : zM} {S : zS} {κ : List (Nat × Nat)} {d pc : Nat}
def zwn (w : zN) (N : List Nat) : zN := (w.1, w.2.1, N, w.2.2.2)
theorem zwn_mem {k : Nat} {q : Nat × va_E} (h : (zws (zwn w N) μ)[k]? = some q) : ∃ n, N[k]? = some n ∧ q = (zad w n, zce w n (μ n)) := by
  have h : (N.map (fun n => (zad w n, zce w n (μ n))))[k]? = some q := h
  rw [List.getElem?_map] at h
  cases hn : N[k]? with
  | none => rw [hn] at h; cases h
  | some n =>
    rw [hn] at h
    cases h
    exact ⟨n, rfl, rfl⟩
theorem zws_mem {k : Nat} {q : Nat × va_E} (h : (zws w μ)[k]? = some q) : ∃ n, (znm w)[k]? = some n ∧ q = (zad w n, zce w n (μ n)) := zwn_mem (w := w) (N := znm w) h
theorem zwn_at {n : Nat} (h : n ∈ N) : ∃ q : Nat, N[q]? = some n ∧ (zws (zwn w N) μ)[q]? = some (zad w n, zce w n (μ n)) := zws_at (w := zwn w N) (μ := μ) h
theorem zwn_P {D : va_G} {cl : List vw_C} {H : Heap} (hs : ∀ a ∈ N, a ∈ znm w) (h : va_P D cl (zws w μ) H) : va_P D cl (zws (zwn w N) μ) H := fun k q hq => by
  obtain ⟨n, h1, rfl⟩ := zwn_mem hq
  obtain ⟨q', -, g2⟩ := zws_at (w := w) (μ := μ) (hs n (List.mem_of_getElem? h1))
  exact h q' _ g2
theorem zad_inj {A : Nat → Prop} {a b : Nat} (h : va_D A (zws w μ)) (ha : a ∈ znm w) (hb : b ∈ znm w) (e : zad w a = zad w b) : a = b := by
  obtain ⟨i, i1, i2⟩ := zws_at (w := w) (μ := μ) ha
  obtain ⟨j, j1, j2⟩ := zws_at (w := w) (μ := μ) hb
  have := h.1 i j _ _ i2 j2 e
  subst this
  exact Option.some.inj (i1.symm.trans j1)
theorem zwn_F {q : Nat} (hs : ∀ a ∈ N, a ∈ znm w) (h : zFr (zwn w N) q) : zFr w q := by
  obtain ⟨n, h1, h2⟩ := h
  exact ⟨n, hs n h1, h2⟩
theorem zwn_D (hs : ∀ a ∈ N, a ∈ znm w) (hn : N.Nodup) (h : va_D (zFr w) (zws w μ)) : va_D (zFr (zwn w N)) (zws (zwn w N) μ) := by
  refine ⟨fun i j p q hi hj e => ?_, fun k q hq => ?_⟩
  · obtain ⟨a, a1, rfl⟩ := zwn_mem hi
    obtain ⟨b, b1, rfl⟩ := zwn_mem hj
    have := zad_inj h (hs a (List.mem_of_getElem? a1)) (hs b (List.mem_of_getElem? b1)) e
    subst this
    exact (List.getElem?_inj (List.getElem?_eq_some_iff.mp a1).1 hn).mp (a1.trans b1.symm)
  · obtain ⟨a, a1, rfl⟩ := zwn_mem hq
    exact ⟨a, List.mem_of_getElem? a1, rfl⟩
theorem zwn_G {s : State} (hs : ∀ a ∈ N, a ∈ znm w) (h : zG w s) : zG (zwn w N) s := by
  refine ⟨fun q hq => ?_, h.2.1, fun n L fl hn => ?_⟩
  · obtain ⟨t, ⟨cf, kf, fi, f, a, cell, g1, g2, g3, g4, g5, g6, g7, g8⟩, ⟨c, k1, k2, k3, k4, k5, k6, k7⟩⟩ := h.1 q hq
    exact ⟨t, ⟨cf, kf, fi, f, a, cell, g1, g2, g3, g4, g5, g6, g7, fun z => g8 (zwn_F hs z)⟩, ⟨c, k1, k2, k3, k4, k5, k6, fun z => k7 (zwn_F hs z)⟩⟩
  · obtain ⟨x1, x2, x3⟩ := h.2.2 n L fl hn
    exact ⟨x1, x2, fun z => x3 (zwn_F hs z)⟩
/-- a cell apart from those that may change stays -/
theorem zkeep1 {D : va_G} {cl : List vw_C} {H H1 : Heap} {q : Nat × va_E} {l l1 : va_W} (hP : va_P D cl (q :: l) H) (hD : va_D (fun _ => True) (q :: l)) (hk : ∀ a, a < H.size → ¬ va_A l H.size a → H1[a]? = H[a]?) (hP1 : va_P D cl l1 H1) (hD1 : va_D (va_A l H.size) l1) : va_at D cl q H1 := by
  have e : ((List.range l.length).map (fun i => i + 1)).map (fun i => (q :: l)[i]?) = l.map some := by
    apply List.ext_getElem?
    intro i
    rw [List.map_map, List.getElem?_map, List.getElem?_map]
    by_cases hi : i < l.length
    · rw [List.getElem?_range hi]
      simp only [Option.map_some, Function.comp, List.getElem?_cons_succ]
      rw [List.getElem?_eq_getElem hi]
      rfl
    · rw [List.getElem?_eq_none (by rw [List.length_range]; omega), List.getElem?_eq_none (by omega)]
      rfl
  have := va_join (wr := [q]) (wc := l) hP hD ((List.range l.length).map (fun i => i + 1)) [0] e rfl rfl (fun i hi hi' => by
    rw [List.mem_singleton] at hi
    subst hi
    obtain ⟨j, -, hj⟩ := List.mem_map.mp hi'
    omega) hk (fun _ _ => trivial) hP1 hD1
  exact this.1 0 q rfl
/-- what F does to the names of N, in all the memory -/
def zlf (N : List Nat) (F : List Int32 → zM → Option (Int32 × zM)) : List Int32 → zM → Option (Int32 × zM) := fun vs μ => match F vs μ with
  | some (r, μ') => some (r, fun a => if a ∈ N then μ' a else μ a)
  | none => none
theorem zcs_VL {idx n maxL b ci nn : Nat} {fl : List (Option (Option Nat))} {CC : String} {T : u_T} {y : MethodName} {bytes : ByteArray} {ret : Option FieldType} {ws : List Cond} {rm : Room} {mg : List Int32 → List Value} {F : List Int32 → zM → Option (Int32 × zM)} (ct : zCt (zwn w N) false y ws rm n [.ref (zad w b)] mg F) (hs : ∀ a ∈ N, a ∈ znm w) (hn : N.Nodup) (cw : zCw S idx y bytes maxL ret ws rm n) (hl : Cond.methodLink S.2.2.1 idx y ∈ S.2.2.2.1) (hin : Cond.instanceMethod y ∈ S.2.2.2.1) (hse : Cond.selects CC y y ∈ S.2.2.2.1) (hbm : b ∈ N) (hsh : zsh w b = (2, ci, fl)) (hci : zcl[ci]? = some (CC, T, nn)) (dd : decode S.1 pc = .ok (.invokevirtual idx, 3)) : zCs w S pc n false [.ref (zad w b)] mg (zlf N F) := by
  intro x hO vs μ r μ' hf H ls lo st hls hH hc k
  unfold zlf at hf
  split at hf
  · rename_i r1 μ1 hF
    cases hf
    obtain ⟨c1, c2⟩ := ct vs μ r μ1 hF
    have hp0 := zPre_of hO hH
    have hpre : ∀ U : State, U.heap = H → x.2.2.2.1.WarmedH U.vm → zPre (zwn w N) μ U := fun U hU hW => by
      obtain ⟨p1, p2, p3, p4, p5⟩ := hp0 U hU hW
      exact ⟨zwn_P hs p1, p2, zwn_D hs hn p3, zwn_G hs p4, hn⟩
    have hrec := zrecv hO hH (hs b hbm) hsh hci
    obtain ⟨p, l, e, s, m, args, below, meth, c, Q⟩ := x
    obtain ⟨hx, hb, hml, hown, hts, hK, hk, -⟩ := hO
    have hr := va_runV (p := p) (l := l) (e := e) (meth := meth) (locs := lo) (cells := Q.2.1) (slots := Q.2.2) (below := below) ⟨hx, hb, hml, hown, hts⟩ (c2 l) ⟨zcw_B cw hts hl, hts _ hin, hts _ hse⟩ ⟨zPre_blind, hrec, fun U hU hW => ⟨rfl, hpre U hU hW⟩⟩ (g := F0 m pc ls ((mg vs).reverse ++ ([.ref (zad w b)] ++ st))) (rest := st) rfl c1 hls rfl (lv_room hc) dd ⟨hk.2.1, hk.2.2⟩
    refine va_calli (a := (.ref (zad w b) :: mg vs).toArray) hr hH.2.2 (fun _ _ h => zwn_F hs h) (fun _ h => zwn_F hs h) fun r' u t H1 lo1 ht hvm hp hB hz1 hk1 hS => ?_
    have hp : r' = r := hp
    rw [hp]
    refine k H1 lo1 ⟨fun j q hq => ?_, zws_D _ hH.2.1, hS⟩
    have hB : va_P (zD w) zcl (zws (zwn w N) μ1) H1 := by rw [← ht]; exact hB
    obtain ⟨a, a1, rfl⟩ := zws_mem hq
    have am := List.mem_of_getElem? a1
    by_cases ha : a ∈ N
    · rw [if_pos ha]
      obtain ⟨i, -, i2⟩ := zwn_at (w := w) (μ := μ1) ha
      exact hB i _ i2
    · rw [if_neg ha]
      have fr : ∀ (q : Nat), zFr (zwn w N) q → va_A (zws (zwn w N) μ) H.size q := by
        rintro q ⟨n, n1, n2⟩
        obtain ⟨i, -, i2⟩ := zwn_at (w := w) (N := N) (μ := μ) (n := n) n1
        subst n2
        exact Or.inl ⟨i, _, i2⟩
      obtain ⟨ia, -, ia2⟩ := zws_at (w := w) (μ := μ) am
      have dn := zwn_D hs hn hH.2.1
      refine zkeep1 (l := zws (zwn w N) μ) (l1 := zws (zwn w N) μ1) ?_ ⟨fun i j p' q' hi hj e => ?_, fun _ _ _ => trivial⟩ (fun a h1 h2 => hk1 a h1 fun z => h2 (fr a z)) hB ⟨fun i j p' q' hi hj e => (zws_D (w := zwn w N) μ1 dn).1 i j p' q' hi hj e, fun i q' hi => fr _ ((zws_D (w := zwn w N) μ1 dn).2 i q' hi)⟩
      · intro i q' hi
        cases i with
        | zero => cases hi; exact hH.1 ia _ ia2
        | succ i => exact zwn_P hs hH.1 i q' hi
      · have key : ∀ (i : Nat) (q' : Nat × va_E), (zws (zwn w N) μ)[i]? = some q' → q'.1 ≠ zad w a := fun i q' hi e => by
          obtain ⟨b', b1, rfl⟩ := zwn_mem hi
          have bm := List.mem_of_getElem? b1
          have := zad_inj hH.2.1 (hs b' bm) am e
          subst this
          exact ha bm
        cases i with
        | zero =>
          cases hi
          cases j with
          | zero => rfl
          | succ j => exact absurd e.symm (key j q' hj)
        | succ i =>
          cases j with
          | zero => cases hj; exact absurd e (key i p' hi)
          | succ j => exact congrArg (fun z => z + 1) (dn.1 i j p' q' hi hj e)
  · cases hf
/-- reading a row that is only read -/
theorem ze_sc (p1 p2 : Nat) {n L : Nat} {fl : List (Option (Option Nat))} {a : zX} (h1 : zRv w S κ pc p1 n) (h2 : zEv w S κ (d + 1) p1 p2 a) (hs : zsh w n = (9, L, fl)) (dd : decode S.1 p2 = .ok (.iaload, 1)) : zEv w S κ d pc (p2 + 1) (ztb (zsv fl) L a) := by
  intro x hO ρ μ v' μ' hf H ls lo st hL hH hc k
  unfold ztb at hf
  split at hf
  · cases hf
  · rename_i v1 μ1 e1
    split at hf
    · rename_i hin
      cases hf
      refine h1 x hO ρ μ H ls lo st hL hH (h2 x hO ρ μ _ _ e1 H ls lo _ hL hH (by rw [zc_ref]; omega) fun H1 lo1 hH1 => ?_)
      have k := k H1 lo1 hH1
      obtain ⟨p, l, e, s, m, args, below, meth, c, Q⟩ := x
      obtain ⟨hx, hb, hml, hown, hts, hK, -, -, hG⟩ := hO
      obtain ⟨x1, x2, x3⟩ := hG.2.2 n L fl hs
      exact va_sld hx hb x1 x2 x3 hH1.2.2 (zib_in hin) dd k
    · cases hf
theorem ze_sl (p1 : Nat) {n L : Nat} {fl : List (Option (Option Nat))} (h1 : zRv w S κ pc p1 n) (hs : zsh w n = (9, L, fl)) (dd : decode S.1 p1 = .ok (.arraylength, 1)) : zEv w S κ d pc (p1 + 1) (zal L) := by
  intro x hO ρ μ v' μ' hf H ls lo st hL hH hc k
  cases hf
  refine h1 x hO ρ μ H ls lo st hL hH ?_
  have k := k H lo hH
  obtain ⟨p, l, e, s, m, args, below, meth, c, Q⟩ := x
  obtain ⟨hx, hb, hml, hown, hts, hK, -, -, hG⟩ := hO
  obtain ⟨x1, x2, x3⟩ := hG.2.2 n L fl hs
  exact va_slen hx hb x1 x2 x3 hH.2.2 dd k
end LIFT
