section ZMET
variable {w : zN} {S : zS} {κ : List (Nat × Nat)} {d pc N B C : Nat} {vd : Bool}
theorem ze_tb (p2 : Nat) {CC nm : String} {len i : Nat} {f : Nat → Int32} {a : zX} (d1 : decode S.1 pc = .ok (.getstatic i, 3)) (hq : (CC, nm, len, f) ∈ zstat) (hw : Cond.fieldLink S.2.2.1 i CC nm "[I" ∈ S.2.2.2.1) (h2 : zEv w S κ (d + 1) (pc + 3) p2 a) (dd : decode S.1 p2 = .ok (.iaload, 1)) : zEv w S κ d pc (p2 + 1) (ztb f len a) := by
  intro x hO ρ μ v' μ' hf H ls lo st hL hH hc k
  unfold ztb at hf
  split at hf
  · cases hf
  · rename_i v1 μ1 e1
    split at hf
    · rename_i hin
      cases hf
      have h2 := h2 x hO ρ μ _ _ e1 H ls lo
      obtain ⟨p, l, e, s, m, args, below, meth, c, Q⟩ := x
      obtain ⟨hx, hb, hml, hown, hts, hK, -, -, hG⟩ := id hO
      obtain ⟨t, g1, g2⟩ := hG.1 _ hq
      refine va_gets hx hb g1 hH.2.2 hown (hts _ hw) (fun _ h => h) d1 (h2 _ hL hH (by rw [zc_ref]; omega) fun H1 lo1 hH1 => ?_)
      obtain ⟨cell, c1, c2, c3, c4, c5, c6, c7⟩ := g2.kept hH1.2.2.2.1
      have hlt : v1.toInt.toNat < len := by have h := hin.1; have h' := hin.2; omega
      have e9 : v1.toNatClampNeg = v1.toInt.toNat := rfl
      have c4 : len ≤ cell.slots.size := c4
      have hnn : ¬ (v1 < 0 ∨ cell.slots.size ≤ v1.toNatClampNeg) := by
        rintro (q | q)
        · exact zib_in (n := len) hin (Or.inl q)
        · omega
      exact W.iald hx hb c1 c2 c3 hnn (by rw [e9]; exact c6 _ hlt) rfl rfl dd (k H1 lo1 hH1)
    · cases hf
theorem ze_al (p1 : Nat) {n len : Nat} {fl : List (Option (Option Nat))} (h1 : zRv w S κ pc p1 n) (hn : n ∈ znm w) (hs : zsh w n = (0, len, fl)) (dd : decode S.1 p1 = .ok (.arraylength, 1)) : zEv w S κ d pc (p1 + 1) (zal len) := by
  intro x hO ρ μ v' μ' hf H ls lo st hL hH hc k
  cases hf
  refine h1 x hO ρ μ H ls lo st hL hH ?_
  obtain ⟨q, g1, g2⟩ := zws_h hH hn
  rw [zce_0 hs] at g2
  have kk := k H lo hH
  obtain ⟨p, l, e, s, m, args, below, meth, c, Q⟩ := x
  obtain ⟨hx, hb, hml, hown, hts, hK, -⟩ := hO
  exact va_alen hx hb hK hH.1 q 0 g2 rfl rfl dd kk
/-! switches -/
def zTb (w : zN) (S : zS) (κ : List (Nat × Nat)) (vd : Bool) (p1 N C : Nat) (offs : Array Int) : Nat → List zT → Prop
  | _, [] => True
  | k, s :: tl => (∃ (off : Int) (tgt : Nat), offs[k]? = some off ∧ (p1 : Int) + off = (tgt : Int) ∧ zSj w S κ vd tgt N N C s) ∧ zTb w S κ vd p1 N C offs (k + 1) tl
theorem zTb_get {p1 : Nat} {offs : Array Int} : ∀ {tb : List zT} {k0 : Nat}, zTb w S κ vd p1 N C offs k0 tb → ∀ (k : Nat) (s : zT), tb[k]? = some s → ∃ (off : Int) (tgt : Nat), offs[k0 + k]? = some off ∧ (p1 : Int) + off = (tgt : Int) ∧ zSj w S κ vd tgt N N C s
  | [], _, _, k, s, h => by simp at h
  | q :: tl, k0, hT, 0, s, h => by
    cases h
    exact hT.1
  | q :: tl, k0, hT, k + 1, s, h => by
    have h : tl[k]? = some s := h
    have := zTb_get hT.2 k s h
    rw [show k0 + (k + 1) = k0 + 1 + k by omega]
    exact this
theorem zs_sw (p1 : Nat) {e : zX} {lo hi dflt : Int} {len : Nat} {offs : Array Int} {tb : List zT} {df : zT} (td : Nat) (h1 : zEv w S κ 0 pc p1 e) (dd : decode S.1 p1 = .ok (.tableswitch dflt lo hi offs, len)) (hl : (tb.length : Int) = hi - lo + 1) (ht : zTb w S κ vd p1 N C offs 0 tb) (htd : (p1 : Int) + dflt = (td : Int)) (hd : zSj w S κ vd td N N C df) : zSj w S κ vd pc N B C (zsw e lo tb df) := by
  intro x hO ρ μ t v ρ' μ' hf H ls l0 hL hH k0 k1 k2 k3
  unfold zsw at hf
  split at hf
  · cases hf
  · rename_i u μ1 e1
    refine h1 x hO ρ μ _ _ e1 H ls l0 [] hL hH (Nat.le_refl _) fun H1 lo1 hH1 => ?_
    have fin : ∀ (s : zT) (tg : Nat), zSj w S κ vd tg N N C s → (match s ρ μ1 with
        | none => none
        | some (t, r, ρ2, μ2) => if t = 1 then some (0, 0, ρ2, μ2) else some (t, r, ρ2, μ2)) = some (t, v, ρ', μ') → zW S x H1 lo1 tg ls [] := by
      intro s tg hs hq
      split at hq
      · cases hq
      · rename_i t2 r2 ρ2 μ2 e2
        split at hq
        · rename_i h1
          cases hq
          exact hs x hO _ _ _ _ _ _ e2 H1 ls lo1 hL hH1 (fun q => by omega) (fun _ => k0 rfl) (fun q => by omega) (fun q => by omega)
        · rename_i h1
          cases hq
          exact hs x hO _ _ _ _ _ _ e2 H1 ls lo1 hL hH1 k0 (fun q => absurd q h1) k2 k3
    by_cases hlo : u.toInt < lo
    · rw [if_pos hlo] at hf
      have k9 := fin _ td hd hf
      obtain ⟨p, l, e, s, m, args, below, meth, c, Q⟩ := x
      exact lv_tableOut hO.1 hO.2.1 dd (Or.inl hlo) htd k9
    · rw [if_neg hlo] at hf
      cases hk : tb[(u.toInt - lo).toNat]? with
      | none =>
        rw [hk] at hf
        have k9 := fin _ td hd hf
        have hge := List.getElem?_eq_none_iff.mp hk
        obtain ⟨p, l, e, s, m, args, below, meth, c, Q⟩ := x
        exact lv_tableOut hO.1 hO.2.1 dd (Or.inr (by omega)) htd k9
      | some s =>
        rw [hk] at hf
        obtain ⟨off, tgt, g1, g2, g3⟩ := zTb_get ht _ _ hk
        have k9 := fin _ tgt g3 hf
        have hlt := (List.getElem?_eq_some_iff.mp hk).1
        rw [Nat.zero_add] at g1
        obtain ⟨p, l, e, s, m, args, below, meth, c, Q⟩ := x
        exact lv_tableIn hO.1 hO.2.1 dd hlo (by omega) g1 g2 k9
theorem zs_lw (p1 : Nat) {e : zX} {dflt : Int} {len : Nat} {ps : Array (Int × Int)} {sel : Int32 → zT} (h1 : zEv w S κ 0 pc p1 e) (dd : decode S.1 p1 = .ok (.lookupswitch dflt ps, len)) (hp : (ps.toList.zip (ps.toList.drop 1)).all (fun (a, next) => a.1 < next.1) = true) (ht : ∀ v : Int32, ∃ tgt : Nat, (p1 : Int) + Op.lookupswitch.offset ps.toList dflt v.toInt = (tgt : Int) ∧ zSj w S κ vd tgt N N C (sel v)) : zSj w S κ vd pc N B C (zlw e sel) := by
  intro x hO ρ μ t v ρ' μ' hf H ls l0 hL hH k0 k1 k2 k3
  unfold zlw at hf
  split at hf
  · cases hf
  · rename_i u μ1 e1
    refine h1 x hO ρ μ _ _ e1 H ls l0 [] hL hH (Nat.le_refl _) fun H1 lo1 hH1 => ?_
    obtain ⟨tgt, g2, g3⟩ := ht u
    split at hf
    · cases hf
    · rename_i t2 r2 ρ2 μ2 e2
      have k9 : zW S x H1 lo1 tgt ls [] := by
        split at hf
        · rename_i h1
          cases hf
          exact g3 x hO _ _ _ _ _ _ e2 H1 ls lo1 hL hH1 (fun q => by omega) (fun _ => k0 rfl) (fun q => by omega) (fun q => by omega)
        · rename_i h1
          cases hf
          exact g3 x hO _ _ _ _ _ _ e2 H1 ls lo1 hL hH1 k0 (fun q => absurd q h1) k2 k3
      obtain ⟨p, l, e, s, m, args, below, meth, c, Q⟩ := x
      exact lv_lookup hO.1 hO.2.1 dd hp rfl g2 k9
/-! arguments -/
def zmg (ad : Nat → Nat) : List (Option (Nat × Bool)) → List Int32 → List Value
  | [], _ => []
  | some (n, false) :: ts, vs => .ref (ad n) :: zmg ad ts vs
  | none :: ts, v :: vs => .int v :: zmg ad ts vs
  | some (n, true) :: ts, v :: vs => .ref (ad (n + v.toInt.toNat)) :: zmg ad ts vs
  | none :: _, [] => []
  | some (_, true) :: _, [] => []
theorem za_nil {mg : List Int32 → List Value} (h : mg = zmg (zad w) []) : zAv w S κ d pc pc mg zan := by
  intro x hO ρ μ v μ' hf H ls lo st hL hH hc k
  cases hf
  subst h
  exact k H lo hH
theorem za_int (p1 : Nat) {p2 : Nat} {ts : List (Option (Nat × Bool))} {e : zX} {a : zA} (h1 : zEv w S κ d pc p1 e) (h2 : zAv w S κ (d + 1) p1 p2 (zmg (zad w) ts) a) : zAv w S κ d pc p2 (zmg (zad w) (none :: ts)) (zai e a) := by
  intro x hO ρ μ v μ' hf H ls lo st hL hH hc k
  unfold zai at hf
  split at hf
  · cases hf
  · rename_i u μ1 e1
    split at hf
    · cases hf
    · rename_i vs μ2 e2
      cases hf
      exact h1 x hO ρ μ _ _ e1 H ls lo st hL hH hc fun H1 lo1 hH1 => h2 x hO ρ _ _ _ e2 H1 ls lo1 _ hL hH1 (by rw [zc_int]; omega) fun H2 lo2 hH2 => by
        have k := k H2 lo2 hH2
        simpa [zmg] using k
theorem za_ref (p1 : Nat) {p2 n : Nat} {ts : List (Option (Nat × Bool))} {a : zA} (h1 : zRv w S κ pc p1 n) (h2 : zAv w S κ (d + 1) p1 p2 (zmg (zad w) ts) a) : zAv w S κ d pc p2 (zmg (zad w) (some (n, false) :: ts)) a := by
  intro x hO ρ μ v μ' hf H ls lo st hL hH hc k
  exact h1 x hO ρ μ H ls lo st hL hH (h2 x hO ρ μ _ _ hf H ls lo _ hL hH (by rw [zc_ref]; omega) fun H2 lo2 hH2 => by
    have k := k H2 lo2 hH2
    simpa [zmg] using k)
theorem zqsel {ad : Nat → Nat} {fl : List (Option (Option Nat))} {j n : Nat} (h : fl[j]? = some (some (some n))) : va_rf (zqs ad fl j) = .ref (ad n) := by
  unfold zqs
  rw [List.getD_eq_getElem?_getD, h]
  rfl
theorem za_idx (p1 p2 : Nat) {p3 n q len : Nat} {fl : List (Option (Option Nat))} {ts : List (Option (Nat × Bool))} {e : zX} {a : zA} (h1 : zRv w S κ pc p1 q) (h2 : zEv w S κ (d + 1) p1 p2 e) (hq : q ∈ znm w) (hs : zsh w q = (3, len, fl)) (hfl : ∀ j : Nat, j < len → fl[j]? = some (some (some (n + j)))) (dd : decode S.1 p2 = .ok (.aaload, 1)) (h3 : zAv w S κ (d + 1) (p2 + 1) p3 (zmg (zad w) ts) a) : zAv w S κ d pc p3 (zmg (zad w) (some (n, true) :: ts)) (zaq len e a) := by
  intro x hO ρ μ v μ' hf H ls lo st hL hH hc k
  unfold zaq at hf
  split at hf
  · cases hf
  · rename_i u μ1 e1
    split at hf
    · rename_i hin
      split at hf
      · cases hf
      · rename_i vs μ2 e2
        cases hf
        refine h1 x hO ρ μ H ls lo st hL hH (h2 x hO ρ μ _ _ e1 H ls lo _ hL hH (by rw [zc_ref]; omega) fun H1 lo1 hH1 => ?_)
        have k9 := h3 x hO ρ _ _ _ e2 H1 ls lo1 (.ref (zad w (n + u.toInt.toNat)) :: st) hL hH1 (by rw [zc_ref]; omega) fun H2 lo2 hH2 => by
          have k := k H2 lo2 hH2
          simpa [zmg] using k
        obtain ⟨i, g1, g2⟩ := zws_h hH1 hq
        rw [zce_3 hs] at g2
        have hlt : u.toInt.toNat < len := by have h := hin.1; have h' := hin.2; omega
        rw [← zqsel (ad := zad w) (hfl _ hlt)] at k9
        obtain ⟨p, l, e, s, m, args, below, meth, c, Q⟩ := x
        obtain ⟨hx, hb, hml, hown, hts, hK, -⟩ := hO
        exact W.aald (v := va_rf (zqs (zad w) fl u.toNatClampNeg)) (ty := .array .int) hx hb (hH1.1 i _ g2) ((hK.2 2 _ rfl).1 len (fun j => va_rf (zqs (zad w) fl j))) rfl (fun q => by cases q) (by show ¬ (u < 0 ∨ (arrV _ _ _).slots.size ≤ _); rw [arrV_size]; exact zib_in hin) (by show (arrV _ _ _).slots[_]? = _; exact arrV_read _ _ hlt) rfl rfl dd k9
    · cases hf
end ZMET
