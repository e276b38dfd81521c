/-! ===== the frame rule: own cells that a callee doesn't know stay as they are ===== -/
def frX (X : KX) (H' : Heap) (P : Nat → Bool) : KX := (X.1, X.2.1, X.2.2.1, X.2.2.2.1, X.2.2.2.2.1, H', X.2.2.2.2.2.2.1, X.2.2.2.2.2.2.2.1, X.2.2.2.2.2.2.2.2.1, X.2.2.2.2.2.2.2.2.2.1, X.2.2.2.2.2.2.2.2.2.2.1, fun q => kP X q || P q)
def CpX (X : KX) (H' : Heap) : Prop := ∀ q, q < (kH X).size → ¬ kFr X q → H'[q]? = (kH X)[q]?
section FRM
variable {X : KX} {M : MI} {A : List Value} {h h0 h1 : AH} {H' H : Heap} {P : Nat → Bool} {U : State} {Z Z' : ZT}
theorem frX_fr : ∀ q, kFr (frX X H' P) q → kFr X q := fun q z => ⟨z.1, (Bool.or_eq_false_iff.mp (show (kP X q || P q) = false from z.2)).1⟩
theorem frX_np : ∀ q, kFr (frX X H' P) q → P q = false := fun q z => (Bool.or_eq_false_iff.mp (show (kP X q || P q) = false from z.2)).2
theorem KS_fr (hK : KS X U) (hc : CpX X H') (hz : kN X ≤ H'.size) : KS (frX X H' P) U := ⟨hK.1, hz, hK.2.2.1, va_X.kept hK.2.2.2.1 (hc _ (Nat.lt_of_lt_of_le hK.2.2.1 hK.2.1) (fun z => absurd z.1 (Nat.not_le.mpr hK.2.2.1))), hK.2.2.2.2.1, hK.2.2.2.2.2⟩
theorem GX_fr (hg : GX X) (hc : CpX X H') : GX (frX X H' P) := by
  obtain ⟨g1, g2, g3, g4, g5, g6, g7, g8, g9⟩ := hg
  refine ⟨fun U hU => ⟨((g1 U hU).1.kept hc).narrow frX_fr, ((g1 U hU).2.kept hc).narrow frX_fr⟩, g2, fun U hU => ((g3 U hU).kept hc).narrow frX_fr, fun U hU => ?_, fun i hi U hU => ?_, fun U hU => ?_, fun U hU => ((g7 U hU).kept hc).narrow frX_fr, g8, g9⟩
  · obtain ⟨a1, a2, a3, a4⟩ := g4 U hU
    exact ⟨(a1.kept hc).narrow frX_fr, (a2.kept hc).narrow frX_fr, (a3.kept hc).narrow frX_fr, (a4.kept hc).narrow frX_fr⟩
  · obtain ⟨a1, a2, a3, a4⟩ := g5 i hi U hU
    exact ⟨(a1.kept hc).narrow frX_fr, (a2.kept hc).narrow frX_fr, (a3.kept hc).narrow frX_fr, (a4.kept hc).narrow frX_fr⟩
  · obtain ⟨a1, a2, a3, a4, a5, a6⟩ := g6 U hU
    refine ⟨(a1.kept hc).narrow frX_fr, (a2.kept hc).narrow frX_fr, (a3.kept hc).narrow frX_fr, fun j hj => ?_, (a5.kept hc).narrow frX_fr, (a6.kept hc).narrow frX_fr⟩
    obtain ⟨b1, b2, b3⟩ := a4 j hj
    exact ⟨(b1.kept hc).narrow frX_fr, (b2.kept hc).narrow frX_fr, (b3.kept hc).narrow frX_fr⟩
theorem GP2_fr (hg : GP2 X) : GP2 (frX X H' P) := hg
theorem Rep_fr (hR : Rep X h H) (hz : h0.1 = h.1) (hag : ∀ q e, h0.2 q = some e → h.2 q = some e ∧ P q = false) (hl : ∀ q, P q = true → q < h.1) : Rep (frX X H P) h0 H := ⟨hR.1.trans hz.symm, ⟨by rw [hz]; exact hR.2.1.1, fun q hq => by
    rw [hz]
    rcases (Bool.or_eq_true _ _).mp (show (kP X q || P q) = true from hq) with g | g
    · exact hR.2.1.2 q g
    · exact hl q g⟩, fun a e ha => ⟨⟨(hR.2.2.1 a e (hag a e ha).1).1.1, Bool.or_eq_false_iff.mpr ⟨(hR.2.2.1 a e (hag a e ha).1).1.2, (hag a e ha).2⟩⟩, (hR.2.2.1 a e (hag a e ha).1).2⟩, fun q _ _ => rfl⟩
def mrg (P : Nat → Bool) (h h1 : AH) : AH := (h1.1, fun q => if P q = true then h.2 q else h1.2 q)
theorem Rep_bk {t : Heap} (hR : Rep X h H) (hl : ∀ q, P q = true → q < h.1) (hR1 : Rep (frX X H P) h1 t) (hF : ∀ q : Nat, q < H.size → ¬ kFr (frX X H P) q → t[q]? = H[q]?) : Rep X (mrg P h h1) t := by
  refine ⟨hR1.1, ⟨hR1.2.1.1, fun q hq => hR1.2.1.2 q ((Bool.or_eq_true _ _).mpr (Or.inl hq))⟩, fun a e ha => ?_, fun q hq hn => ?_⟩
  · by_cases g : P a = true
    · have ha2 : h.2 a = some e := by simpa [mrg, g] using ha
      have h3 := hR.2.2.1 a e ha2
      exact ⟨h3.1, h3.2.kept (hF a (by rw [hR.1]; exact hl a g) (fun z => by rw [frX_np a z] at g; cases g))⟩
    · have ha2 : h1.2 a = some e := by simpa [mrg, g] using ha
      have h3 := hR1.2.2.1 a e ha2
      exact ⟨frX_fr a h3.1, h3.2⟩
  · have e1 := hR.2.2.2 q hq hn
    have e2 := e1
    rw [Array.getElem?_eq_getElem hq] at e2
    rw [← e1]
    exact hR1.2.2.2 q (Array.getElem?_eq_some_iff.mp e2).1 (fun z => hn (frX_fr q z))
theorem Ct.fr (hz0 : h0.1 = h.1) (hag : ∀ q e, h0.2 q = some e → h.2 q = some e ∧ P q = false) (hl : ∀ q, P q = true → q < h.1) (hC : ∀ H', CpX X H' → Ct (frX X H' P) M A h0 Z) (hw : ∀ o h1, Z o h1 → (∀ q e, h1.2 q = some e → P q = false) → h.1 ≤ h1.1 → Z' o (mrg P h h1)) : Ct X M A h Z' := by
  intro p e ha hc hk s m args below hf hap hPc hK
  obtain ⟨hargs, hR, hKS⟩ := hPc
  have hcp : CpX X s.heap := hR.2.2.2
  have hsz : kN X ≤ s.heap.size := by rw [hR.1]; exact hR.2.1.1
  obtain ⟨kk9, o, q1, q2, q3, q4⟩ := hC s.heap hcp p e ha hc hk s m args below hf hap ⟨hargs, Rep_fr hR hz0 hag hl, KS_fr hKS hcp hsz⟩ hK
  refine ⟨kk9, o, q1, q2, q3, ?_⟩
  have none' : ∀ (h1 : AH) (t : Heap), Rep (frX X s.heap P) h1 t → ∀ q e, h1.2 q = some e → P q = false := fun h1 t hr q e he => frX_np q (hr.2.2.1 q e he).1
  have le' : ∀ (h1 : AH) (t : State), Rep (frX X s.heap P) h1 t.heap → va_F (kFr (frX X s.heap P)) s t → h.1 ≤ h1.1 := fun h1 t hr hF => by rw [← hR.1, ← hr.1]; exact hF.1
  rcases q4 with ⟨⟨⟨v, h', e1, hz, hr⟩, hF⟩, L, hL1, hL2⟩ | ⟨q, e1, E, ce, L, ⟨⟨h', hz, hr⟩, hF⟩, r1, r2, r3, r4, r5, r6⟩
  · exact Or.inl ⟨⟨⟨v, _, e1, hw _ _ hz (none' _ _ hr) (le' _ _ hr hF), Rep_bk hR hl hr hF.2⟩, ⟨hF.1, fun q a b => hF.2 q a (fun z => b (frX_fr q z))⟩⟩, L, hL1, fun q hq => frX_fr _ (hL2 q hq)⟩
  · exact Or.inr ⟨q, e1, E, ce, L, ⟨⟨_, hw _ _ hz (none' _ _ hr) (le' _ _ hr hF), Rep_bk hR hl hr hF.2⟩, ⟨hF.1, fun q a b => hF.2 q a (fun z => b (frX_fr q z))⟩⟩, r1, r2, r3, r4, r5, fun z hz => frX_fr _ (r6 z hz)⟩
end FRM
section OFR
variable {X : KX} {h h' : AH} {x : Nat} {S S' : SH} {past past' : List SH} {pr N N' : SH} {hs le lc lf hs' le' lc' lf' : Int32} {txt ln txt' ln' : List Int32}
theorem OpAt.fr (p : OpAt X h x S past pr N hs le lc lf txt ln) (hz : h.1 ≤ h'.1) (k : ∀ q, x ≤ q → q < x + 185 → h'.2 q = h.2 q) (k2 : ∀ q e, q < h.1 → h.2 q = some e → h'.2 q = some e) : OpAt X h' x S past pr N hs le lc lf txt ln := by
  obtain ⟨p1, p2, p3, p4, ⟨o5, p5⟩, ⟨T, o6, p6⟩, ⟨o7, p7⟩, ⟨R, j, r1, r2, r3, r4, r5, r6⟩, ⟨cm, cnt, pos, q1, ⟨v, L, ml, s1, s2, s3⟩, q3, q4⟩, p10⟩ := p
  exact ⟨(k x (by omega) (by omega)).trans p1, Nat.le_trans p2 hz, p3, p4, ⟨o5, IsSheet.keep p5 (fun q a b => k q (by omega) (by omega))⟩, ⟨T, o6, IsSheet.keep p6 (fun q a b => k q (by omega) (by omega))⟩, ⟨o7, IsSheet.keep p7 (fun q a b => k q (by omega) (by omega))⟩, ⟨R, j, r1, r2, r3.keep (fun q a b => k q (by omega) (by omega)), r4, r5, r6⟩, ⟨cm, cnt, pos, (k _ (by omega) (by omega)).trans q1, ⟨v, L, ml, s1.keep hz (k _ (by omega) (by omega)) ((k2 v _ s1.2.2.2.2.1 s1.2.1).trans s1.2.1.symm), s2, s3⟩, (k _ (by omega) (by omega)).trans q3, fun i hi => ⟨(k _ (by omega) (by omega)).trans (q4 i hi).1, (q4 i hi).2.1, (k _ (by omega) (by omega)).trans (q4 i hi).2.2.1, (q4 i hi).2.2.2⟩⟩, p10.keep hz (fun q hq => k q (by omega) (by omega))⟩
theorem OpW.fr (p : OpW X h x S past N hs le lc lf txt ln) (hz : h.1 ≤ h'.1) (k : ∀ q, x ≤ q → q < x + 185 → h'.2 q = h.2 q) (k2 : ∀ q e, q < h.1 → h.2 q = some e → h'.2 q = some e) : OpW X h' x S past N hs le lc lf txt ln := by
  obtain ⟨pr, p⟩ := p
  exact ⟨pr, p.fr hz k k2⟩
theorem OpW.lim (p : OpW X h x S past N hs le lc lf txt ln) : x + 185 ≤ h.1 := by
  obtain ⟨pr, p⟩ := p
  exact p.2.1
theorem OpW.old (p : OpW X h x S past N hs le lc lf txt ln) (hz : h.1 ≤ h'.1) (k : ∀ q, q < h.1 → h'.2 q = h.2 q) : OpW X h' x S past N hs le lc lf txt ln := p.fr hz (fun q a b => k q (by have := p.lim; omega)) (fun q e a b => (k q a).trans b)
/-- the opera lies in the heap, off the cells P -/
def OpF (X : KX) (P : Nat → Bool) (h : AH) (x : Nat) (S : SH) (past : List SH) (N : SH) (hs le lc lf : Int32) (txt ln : List Int32) : Prop := ∃ h0 : AH, OpW X h0 x S past N hs le lc lf txt ln ∧ h0.1 = h.1 ∧ ∀ q e, h0.2 q = some e → h.2 q = some e ∧ P q = false
/-- from a heap whose later cells are P's -/
theorem OpF.of {P : Nat → Bool} (p : OpW X h x S past N hs le lc lf txt ln) (hz : h.1 ≤ h'.1) (k : ∀ q, q < h.1 → h'.2 q = h.2 q) (hP : ∀ q, q < h.1 → P q = false) : OpF X P h' x S past N hs le lc lf txt ln := ⟨(h'.1, fun q => if q < h.1 then h.2 q else none), p.old hz (fun q hq => if_pos hq), rfl, fun q e he => by
  by_cases c : q < h.1
  · have he2 : h.2 q = some e := by simpa [c] using he
    exact ⟨(k q c).trans he2, hP q c⟩
  · exact absurd he (by simp [c])⟩
theorem OpF.put {P : Nat → Bool} {a : Nat} {e : va_E} (p : OpF X P h x S past N hs le lc lf txt ln) (ha : P a = true) : OpF X P (hput h a e) x S past N hs le lc lf txt ln := by
  obtain ⟨h0, p1, p2, p3⟩ := p
  refine ⟨h0, p1, p2, fun q e' he => ⟨?_, (p3 q e' he).2⟩⟩
  have hne : ¬ q = a := fun c => by rw [c] at he; have := (p3 a e' he).2; rw [ha] at this; cases this
  show (if q = a then some e else h.2 q) = some e'
  rw [if_neg hne]
  exact (p3 q e' he).1
theorem OpW_frX {H' : Heap} {P : Nat → Bool} (p : OpW X h x S past N hs le lc lf txt ln) : OpW (frX X H' P) h x S past N hs le lc lf txt ln := p
theorem OpW_frX' {H' : Heap} {P : Nat → Bool} (p : OpW (frX X H' P) h x S past N hs le lc lf txt ln) : OpW X h x S past N hs le lc lf txt ln := p
/-- it answers or throws o, and leaves an opera so that R holds -/
def zO (X : KX) (x : Nat) (R : Out → SH → List SH → SH → Int32 → Int32 → Int32 → Int32 → List Int32 → List Int32 → Prop) : ZT := fun o h' => ∃ (S : SH) (past : List SH) (N : SH) (hs le lc lf : Int32) (txt ln : List Int32), R o S past N hs le lc lf txt ln ∧ OpW X h' x S past N hs le lc lf txt ln
def zOF (X : KX) (P : Nat → Bool) (x : Nat) (h : AH) (R : Out → SH → List SH → SH → Int32 → Int32 → Int32 → Int32 → List Int32 → List Int32 → Prop) : ZT := fun o h' => ∃ (S : SH) (past : List SH) (N : SH) (hs le lc lf : Int32) (txt ln : List Int32), R o S past N hs le lc lf txt ln ∧ OpF X P h' x S past N hs le lc lf txt ln ∧ OpW X h' x S past N hs le lc lf txt ln ∧ h.1 ≤ h'.1 ∧ ∀ q, P q = true → h'.2 q = h.2 q
/-- a contract over the opera, with other cells about -/
theorem Ct.op {M : MI} {A : List Value} {P : Nat → Bool} {R : Out → SH → List SH → SH → Int32 → Int32 → Int32 → Int32 → List Int32 → List Int32 → Prop} (hg : GX X) (hg2 : GP2 X) (p : OpF X P h x S past N hs le lc lf txt ln) (hl : ∀ q, P q = true → q < h.1) (hx : ∀ q, P q = true → x + 185 ≤ q)
    (hC : ∀ (X' : KX) (h0 : AH), X'.1 = X.1 → GX X' → GP2 X' → OpW X' h0 x S past N hs le lc lf txt ln → Ct X' M A h0 (zO X' x R)) : Ct X M A h (zOF X P x h R) := by
  obtain ⟨h0, p1, p2, p3⟩ := p
  refine Ct.fr (h0 := h0) (Z := zO X x R) p2 p3 hl (fun H' hc => (hC (frX X H' P) h0 rfl (GX_fr hg hc) (GP2_fr hg2) (OpW_frX p1)).weak (fun o h' ⟨a1, a2, a3, a4, a5, a6, a7, a8, a9, r, q⟩ => ⟨a1, a2, a3, a4, a5, a6, a7, a8, a9, r, OpW_frX' q⟩)) (fun o h1 hz hn hle => ?_)
  obtain ⟨S', past', N', hs', le', lc', lf', txt', ln', r, q⟩ := hz
  have k2 : ∀ q e, h1.2 q = some e → (mrg P h h1).2 q = some e := fun q e he => (if_neg (by rw [hn q e he]; exact fun c => by cases c)).trans he
  exact ⟨S', past', N', hs', le', lc', lf', txt', ln', r, ⟨h1, q, rfl, fun q e he => ⟨k2 q e he, hn q e he⟩⟩, OpW.fr q (Nat.le_refl _) (fun z a b => if_neg (fun c => by have := hx z c; omega)) (fun z e _ he => k2 z e he), hle, fun q hq => if_pos hq⟩
theorem Ct.opM {M : MI} {A : List Value} {P : Nat → Bool} {v : Option Value} (hg : GX X) (hg2 : GP2 X) (p : OpF X P h x S past N hs le lc lf txt ln) (hl : ∀ q, P q = true → q < h.1) (hx : ∀ q, P q = true → x + 185 ≤ q)
    (hC : ∀ (X' : KX) (h0 : AH), X'.1 = X.1 → GX X' → GP2 X' → OpW X' h0 x S past N hs le lc lf txt ln → Ct X' M A h0 (zM v (fun h' => OpW X' h' x S' past' N' hs' le' lc' lf' txt' ln'))) : Ct X M A h (zM v (fun h' => OpF X P h' x S' past' N' hs' le' lc' lf' txt' ln' ∧ OpW X h' x S' past' N' hs' le' lc' lf' txt' ln' ∧ h.1 ≤ h'.1 ∧ ∀ q, P q = true → h'.2 q = h.2 q)) := by
  refine (Ct.op (R := fun o a1 a2 a3 a4 a5 a6 a7 a8 a9 => o = .inl v ∧ a1 = S' ∧ a2 = past' ∧ a3 = N' ∧ a4 = hs' ∧ a5 = le' ∧ a6 = lc' ∧ a7 = lf' ∧ a8 = txt' ∧ a9 = ln') hg hg2 p hl hx (fun X' h0 e1 e2 e3 e4 => (hC X' h0 e1 e2 e3 e4).weak (fun o h' hz => ⟨_, _, _, _, _, _, _, _, _, ⟨hz.1, rfl, rfl, rfl, rfl, rfl, rfl, rfl, rfl, rfl⟩, hz.2⟩))).weak (fun o h' hz => ?_)
  obtain ⟨a1, a2, a3, a4, a5, a6, a7, a8, a9, ⟨e, rfl, rfl, rfl, rfl, rfl, rfl, rfl, rfl, rfl⟩, q⟩ := hz
  exact ⟨e, q⟩
end OFR
