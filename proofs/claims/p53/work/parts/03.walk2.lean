/-! ===== THE WALK, second part: arrays as lists, things that are made, copies, constructors ===== -/
def aL (c : ClassId) (L : List Int32) : va_E := .inl (c, L.length, .inl (fun j => L.getD j 0))
def aJ (c : ClassId) (L : List Int64) : va_E := .inl (c, L.length, .inr (.inl (fun j => L.getD j 0)))
def aQ (c : ClassId) (n : Nat) (f : Nat → Option Nat) : va_E := .inl (c, n, .inr (.inr (.inr (.inr f))))
def rd (L : List Int32) (i : Int32) : Int32 := L.getD i.toNatClampNeg 0
def wr (L : List Int32) (i x : Int32) : List Int32 := L.set i.toNatClampNeg x
def cpL (A B : List Int32) (sp dp n : Nat) : List Int32 := (List.range B.length).map (fun k => if dp ≤ k ∧ k < dp + n then A.getD (sp + (k - dp)) 0 else B.getD k 0)
theorem vp_in.lt {i : Int32} {n : Nat} (hi : vp_in i n) : i.toNatClampNeg < n := Nat.not_le.mp fun q => hi (Or.inr q)
theorem arrV_congr {cA : ClassId} {n n' : Nat} {f g : Nat → Value} (hn : n = n') (h : ∀ j, j < n → f j = g j) : arrV cA n f = arrV cA n' g := by
  subst hn
  unfold arrV
  congr 1
  apply Array.ext
  · simp
  · intro j h1 h2
    simp at h1
    simpa using h j h1
section VW2
variable {X : KX} {M : MI} {F : FT} {k n pc : Nat} {lv lv' : List (Nat × Value)} {rest : List Value} {h : AH} {Z : ZT}
theorem Rep.cell {H : Heap} (hR : Rep X h H) {a : Nat} {cA : ClassId} {x : vp_A} (ha : h.2 a = some (.inl (cA, x))) : H[a]? = some (vp_cell cA x) := (hR.2.2.1 a _ ha).2
theorem V_iald {a : Nat} {L : List Int32} {i : Int32} (hdg : decode (mcc M) pc = .ok (.iaload, 1)) (ha : h.2 a = some (aL (kA X 0) L)) (hin : vp_in i L.length) (kk : V X M F k n (pc + 1) lv (.int (rd L i) :: rest) h) : V X M F k n pc lv (.int i :: .ref a :: rest) h := fun p e s m args below meth c H locs ls hF hR hS hL => va_iald hF.1 hF.2.1 hF.2.2.2.2.2.1.1 (hR.at ha) 0 0 rfl rfl hin hdg (kk p e s m args below meth c H locs ls hF hR hS hL)
theorem V_cald {a : Nat} {L : List Int32} {i : Int32} (hdg : decode (mcc M) pc = .ok (.caload, 1)) (ha : h.2 a = some (aL (kA X 1) L)) (hin : vp_in i L.length) (kk : V X M F k n (pc + 1) lv (.int (rd L i) :: rest) h) : V X M F k n pc lv (.int i :: .ref a :: rest) h := fun p e s m args below meth c H locs ls hF hR hS hL => va_cald hF.1 hF.2.1 hF.2.2.2.2.2.1.1 (hR.at ha) 0 1 rfl rfl hin hdg (kk p e s m args below meth c H locs ls hF hR hS hL)
theorem V_bald {a : Nat} {L : List Int32} {i : Int32} (hdg : decode (mcc M) pc = .ok (.baload, 1)) (ha : h.2 a = some (aL (kA X 2) L)) (hin : vp_in i L.length) (kk : V X M F k n (pc + 1) lv (.int (rd L i) :: rest) h) : V X M F k n pc lv (.int i :: .ref a :: rest) h := fun p e s m args below meth c H locs ls hF hR hS hL => va_bald hF.1 hF.2.1 hF.2.2.2.2.2.1.1 (hR.at ha) 0 2 rfl rfl hin hdg (kk p e s m args below meth c H locs ls hF hR hS hL)
theorem V_lald {a : Nat} {L : List Int64} {i : Int32} (hdg : decode (mcc M) pc = .ok (.laload, 1)) (ha : h.2 a = some (aJ (kA X 3) L)) (hin : vp_in i L.length) (kk : V X M F k n (pc + 1) lv (.long (L.getD i.toNatClampNeg 0) :: rest) h) : V X M F k n pc lv (.int i :: .ref a :: rest) h := fun p e s m args below meth c H locs ls hF hR hS hL => va_lald hF.1 hF.2.1 hF.2.2.2.2.2.1.1 (hR.at ha) 0 3 rfl rfl hin hdg (kk p e s m args below meth c H locs ls hF hR hS hL)
theorem V_aald {a t : Nat} {C : String} {N : Nat} {f : Nat → Option Nat} {i : Int32} {v : Nat} (hdg : decode (mcc M) pc = .ok (.aaload, 1)) (ht : (kT X)[t]? = some (kA X t, .object C)) (ha : h.2 a = some (aQ (kA X t) N f)) (hin : vp_in i N) (hv : f i.toNatClampNeg = some v) (kk : V X M F k n (pc + 1) lv (.ref v :: rest) h) : V X M F k n pc lv (.int i :: .ref a :: rest) h := fun p e s m args below meth c H locs ls hF hR hS hL => va_aldq hF.1 hF.2.1 hF.2.2.2.2.2.1.1 (hR.at ha) 0 t rfl ht hin hdg (by rw [hv]; exact kk p e s m args below meth c H locs ls hF hR hS hL)
theorem V_alen {a t : Nat} {x : vp_A} {ty : FieldType} {v : Int32} {cA : ClassId} (hdg : decode (mcc M) pc = .ok (.arraylength, 1)) (ht : (kT X)[t]? = some (cA, ty)) (ha : h.2 a = some (.inl (cA, x))) (hv : Int32.ofNat x.1 = v) (kk : V X M F k n (pc + 1) lv (.int v :: rest) h) : V X M F k n pc lv (.ref a :: rest) h := fun p e s m args below meth c H locs ls hF hR hS hL => va_alen hF.1 hF.2.1 hF.2.2.2.2.2.1.1 (hR.at ha) 0 t rfl ht hv hdg (kk p e s m args below meth c H locs ls hF hR hS hL)
theorem KSt.scr {X : KX} {U : State} (hK : KSt X U) {H : Heap} {h : AH} (hR : Rep X h H) : va_X (kb X) (kL X) (kxs X) U H := va_X.kept hK.2.2.1 (hR.2.2.2 _ (Nat.lt_of_lt_of_le hK.2.1 hK.1) (fun z => absurd z.1 (Nat.not_le.mpr hK.2.1)))
theorem V_sld {i : Int32} (hdg : decode (mcc M) pc = .ok (.iaload, 1)) (hin : vp_in i (kL X)) (kk : V X M F k n (pc + 1) lv (.int (kxs X i.toNatClampNeg) :: rest) h) : V X M F k n pc lv (.int i :: .ref (kb X) :: rest) h := fun p e s m args below meth c H locs ls hF hR hS hL => by
  have hK := hF.2.2.2.2.2.1.2
  have hb : kb X < H.size := by rw [hR.1]; exact Nat.lt_of_lt_of_le hK.2.1 hR.2.1.1
  obtain ⟨scr, h1, h2, h3, h4, h5⟩ := hK.scr hR
  exact W.iald (v := .int (kxs X i.toNatClampNeg)) hF.1 hF.2.1 h1 h2 h3 (by rw [h4]; exact hin) (h5 _ hin.lt) rfl rfl hdg (kk p e s m args below meth c H locs ls hF hR hS hL)
theorem V_slen (hdg : decode (mcc M) pc = .ok (.arraylength, 1)) (kk : V X M F k n (pc + 1) lv (.int (Int32.ofNat (kL X)) :: rest) h) : V X M F k n pc lv (.ref (kb X) :: rest) h := fun p e s m args below meth c H locs ls hF hR hS hL => by
  have hK := hF.2.2.2.2.2.1.2
  obtain ⟨scr, h1, h2, h3, h4, h5⟩ := hK.scr hR
  exact W.alen (n := Int32.ofNat (kL X)) hF.1 hF.2.1 h1 h2 (by rw [h4] <;> rfl) rfl rfl hdg (kk p e s m args below meth c H locs ls hF hR hS hL)
theorem V_iast {a : Nat} {L : List Int32} {i x : Int32} (hdg : decode (mcc M) pc = .ok (.iastore, 1)) (ha : h.2 a = some (aL (kA X 0) L)) (hin : vp_in i L.length) (kk : V X M F k n (pc + 1) lv rest (hput h a (aL (kA X 0) (wr L i x)))) : V X M F k n pc lv (.int x :: .int i :: .ref a :: rest) h := fun p e s m args below meth c H locs ls hF hR hS hL => by
  refine W.iast hF.1 hF.2.1 (hR.cell ha) ((hF.2.2.2.2.2.1.1.2 0 _ rfl).1 L.length (fun j => .int (L.getD j 0))) (fun q => by cases q) (by show ¬ (i < 0 ∨ (arrV _ _ _).slots.size ≤ _); rw [arrV_size]; exact hin) rfl rfl hdg fun H1 e1 z oq => ?_
  refine kk p e s m args below meth c H1 _ ls hF (hR.put ha ?_ z oq) (hS.put z oq (hR.2.2.1 a _ ha).1) hL
  show H1[a]? = some (vp_cell _ _)
  rw [e1, vp_cell_i, vp_cell_i, arrV_store]
  refine congrArg some (arrV_congr (by simp [wr]) fun j hj => ?_)
  by_cases hq : j = i.toNatClampNeg
  · subst hq
    have hg : (wr L i x).getD i.toNatClampNeg 0 = x := by simp [wr, List.getD_eq_getElem?_getD, hj]
    show updV _ _ _ _ = Value.int ((wr L i x).getD i.toNatClampNeg 0)
    rw [hg]
    simp [updV]
  · have hg : (wr L i x).getD j 0 = L.getD j 0 := by simp [wr, List.getD_eq_getElem?_getD, List.getElem?_set_ne (Ne.symm hq)]
    show updV _ _ _ _ = Value.int ((wr L i x).getD j 0)
    rw [hg]
    simp [updV, hq]
theorem V_cast {a : Nat} {L : List Int32} {i x : Int32} (hdg : decode (mcc M) pc = .ok (.castore, 1)) (ha : h.2 a = some (aL (kA X 1) L)) (hin : vp_in i L.length) (hx : vp_nar .char x = x) (kk : V X M F k n (pc + 1) lv rest (hput h a (aL (kA X 1) (wr L i x)))) : V X M F k n pc lv (.int x :: .int i :: .ref a :: rest) h := fun p e s m args below meth c H locs ls hF hR hS hL => by
  refine W.cast hF.1 hF.2.1 (hR.cell ha) ((hF.2.2.2.2.2.1.1.2 1 _ rfl).1 L.length (fun j => .int (L.getD j 0))) (fun q => by cases q) (by show ¬ (i < 0 ∨ (arrV _ _ _).slots.size ≤ _); rw [arrV_size]; exact hin) rfl rfl hdg fun H1 e1 z oq => ?_
  refine kk p e s m args below meth c H1 _ ls hF (hR.put ha ?_ z oq) (hS.put z oq (hR.2.2.1 a _ ha).1) hL
  show H1[a]? = some (vp_cell _ _)
  rw [e1, vp_cell_i, vp_cell_i, arrV_store]
  refine congrArg some (arrV_congr (by simp [wr]) fun j hj => ?_)
  by_cases hq : j = i.toNatClampNeg
  · subst hq
    have hg : (wr L i x).getD i.toNatClampNeg 0 = x := by simp [wr, List.getD_eq_getElem?_getD, hj]
    show updV _ _ _ _ = Value.int ((wr L i x).getD i.toNatClampNeg 0)
    rw [hg]
    simp only [updV, if_true]; first | exact congrArg Value.int hx | (show narrow _ _ = _; have := congrArg Value.int hx; simpa [vp_nar] using this)
  · have hg : (wr L i x).getD j 0 = L.getD j 0 := by simp [wr, List.getD_eq_getElem?_getD, List.getElem?_set_ne (Ne.symm hq)]
    show updV _ _ _ _ = Value.int ((wr L i x).getD j 0)
    rw [hg]
    simp [updV, hq]
theorem V_bast {a : Nat} {L : List Int32} {i x : Int32} (hdg : decode (mcc M) pc = .ok (.bastore, 1)) (ha : h.2 a = some (aL (kA X 2) L)) (hin : vp_in i L.length) (hx : vp_nar .byte x = x) (kk : V X M F k n (pc + 1) lv rest (hput h a (aL (kA X 2) (wr L i x)))) : V X M F k n pc lv (.int x :: .int i :: .ref a :: rest) h := fun p e s m args below meth c H locs ls hF hR hS hL => by
  refine W.bast hF.1 hF.2.1 (hR.cell ha) ((hF.2.2.2.2.2.1.1.2 2 _ rfl).1 L.length (fun j => .int (L.getD j 0))) (fun q => by cases q) (by show ¬ (i < 0 ∨ (arrV _ _ _).slots.size ≤ _); rw [arrV_size]; exact hin) rfl rfl hdg fun H1 e1 z oq => ?_
  refine kk p e s m args below meth c H1 _ ls hF (hR.put ha ?_ z oq) (hS.put z oq (hR.2.2.1 a _ ha).1) hL
  show H1[a]? = some (vp_cell _ _)
  rw [e1, vp_cell_i, vp_cell_i, arrV_store]
  refine congrArg some (arrV_congr (by simp [wr]) fun j hj => ?_)
  by_cases hq : j = i.toNatClampNeg
  · subst hq
    have hg : (wr L i x).getD i.toNatClampNeg 0 = x := by simp [wr, List.getD_eq_getElem?_getD, hj]
    show updV _ _ _ _ = Value.int ((wr L i x).getD i.toNatClampNeg 0)
    rw [hg]
    simp only [updV, if_true]; first | exact congrArg Value.int hx | (show narrow _ _ = _; have := congrArg Value.int hx; simpa [vp_nar] using this)
  · have hg : (wr L i x).getD j 0 = L.getD j 0 := by simp [wr, List.getD_eq_getElem?_getD, List.getElem?_set_ne (Ne.symm hq)]
    show updV _ _ _ _ = Value.int ((wr L i x).getD j 0)
    rw [hg]
    simp [updV, hq]
theorem V_aast {a t v ci N : Nat} {C : String} {T : u_T} {K : Nat} {f : Nat → Option Nat} {i : Int32} {vs : List Value} (hdg : decode (mcc M) pc = .ok (.aastore, 1)) (ht : (kT X)[t]? = some (kA X t, .object C)) (ha : h.2 a = some (aQ (kA X t) N f)) (hv : h.2 v = some (.inr (ci, vs))) (hcl : vwCl[ci]? = some (C, T, K)) (hin : vp_in i N) (kk : V X M F k n (pc + 1) lv rest (hput h a (aQ (kA X t) N (va_up f i.toNatClampNeg (some v))))) : V X M F k n pc lv (.ref v :: .int i :: .ref a :: rest) h := fun p e s m args below meth c H locs ls hF hR hS hL => by
  have hK := hF.2.2.2.2.2.1.1
  obtain ⟨r', hr', cellV, g1, g2, g3, -⟩ := (hR.2.2.1 v _ hv).2
  have hcls := (hK.1 ci _ hcl).2
  obtain ⟨kA', comp, k1, k2, k3, -⟩ := (hK.2 t _ ht).2
  have hcomp : comp = (kD X).1 ci := Option.some.inj (k3.symm.trans hcls.1)
  subst hcomp
  obtain ⟨kC, hkC, -⟩ := hcls.2
  refine W.aast hF.1 hF.2.1 (hR.cell ha) (fun q h => by cases h) (fun h => by cases h) k1 k2 rfl hkC ⟨fun q => hin (Or.inl q), by show _ < (arrV _ _ _).slots.size; rw [arrV_size]; exact hin.lt⟩ g1 (fun q h => by rw [g3] at h; cases h) (by rw [g2]; exact hkC) (by rw [g2]; exact va_assign hcls) rfl rfl hdg fun H1 e1 z oq => ?_
  refine kk p e s m args below meth c H1 _ ls hF (hR.put ha ?_ z oq) (hS.put z oq (hR.2.2.1 a _ ha).1) hL
  show H1[a]? = some (vp_cell _ _)
  rw [e1, vp_cell_q, vp_cell_q, arrV_store]
  congr 2
  funext q
  by_cases hq : q = i.toNatClampNeg
  · subst hq
    simp [updV, va_up, va_rf]
  · simp [updV, va_up, hq]
/-- a cell that was made -/
theorem Rep.new {H H1 : Heap} (hR : Rep X h H) {e' : va_E} (hat : va_at (kD X) vwCl (h.1, e') H1) (hz : H1.size = H.size + 1) (ho : ∀ q : Nat, q < H.size → H1[q]? = H[q]?) : Rep X (hnew h e') H1 := by
  obtain ⟨h1, h2, h3, h4⟩ := hR
  have hfr : kFr X h.1 := ⟨h2.1, by
    cases hb : kP X h.1 with
    | false => rfl
    | true => exact absurd (h2.2 _ hb) (Nat.lt_irrefl _)⟩
  refine ⟨by rw [hz, h1]; rfl, ⟨Nat.le_succ_of_le h2.1, fun q hq => Nat.lt_succ_of_lt (h2.2 q hq)⟩, fun b f hb => ?_, fun q hq hn => ?_⟩
  · by_cases hba : b = h.1
    · subst hba
      have : some e' = some f := by simpa [hnew] using hb
      cases this
      exact ⟨hfr, hat⟩
    · have hb2 : h.2 b = some f := by simpa [hnew, hba] using hb
      exact ⟨(h3 b f hb2).1, (h3 b f hb2).2.kept (ho b (h3 b f hb2).2.lt)⟩
  · have h9 := h4 q hq hn
    rw [Array.getElem?_eq_getElem hq] at h9
    rw [ho q (Array.getElem?_eq_some_iff.mp h9).1]
    exact h4 q hq hn
theorem V.sNew {s : State} {H H1 : Heap} {locs : List Loc} (hS : va_S (kFr X) s.heap H locs) (hz : H1.size = H.size + 1) (ho : ∀ q : Nat, q < H.size → H1[q]? = H[q]?) : va_S (kFr X) s.heap H1 locs := ⟨Nat.le_trans hS.1 (by omega), fun x h1 h2 => (ho x (Nat.lt_of_lt_of_le h1 hS.1)).trans (hS.2.1 x h1 h2), hS.2.2⟩
theorem V_new {ci idx N : Nat} {C : String} {T : u_T} {ty : Nat → FieldType} {fs : List Value} (hdg : decode (mcc M) pc = .ok (.new idx, 3)) (hw : Cond.classLink (my M).cls idx C ∈ GW ∧ Cond.instantiable C N ∈ GW ∧ Cond.initialized C ∈ GW) (hin : ∀ w ∈ u_ws C T N, w ∈ GW) (hty : ∀ k, k < N → parseFieldDescriptor (T k).2.2.1 = some (ty k)) (hcl : vwCl[ci]? = some (C, T, N)) (hfs : ∀ j, j < N → defaultValue (ty j) = vp_V fs j) (hroom : k + 1 ≤ (mR M).cells ∧ n + N ≤ (mR M).slots) (kk : V X M F (k + 1) (n + N) (pc + 3) lv (.ref h.1 :: rest) (hnew h (.inr (ci, fs)))) : V X M F k n pc lv rest h := fun p e s m args below meth c H locs ls hF hR hS hL => by
  obtain ⟨hx, hb, hml, hown, hts, hKS, -⟩ := id hF
  have hKn := hKS.1.1 ci _ hcl
  refine W.newcK hx hb hown (hts _ hw.1) (hts _ hw.2.1) (hts _ hw.2.2) rfl hdg hroom.1 hroom.2 hKn.2.1 rfl fun H1 kC hkC e1 z1 o1 => ?_
  rw [hR.1]
  exact kk p e s m args below meth c H1 locs ls hF (hR.new ⟨_, hcl, (u_born ty hts hin hKn hkC (by rw [← hR.1]; exact e1) hty).to hfs⟩ z1 o1) (V.sNew hS z1 o1) hL
theorem V_newi {z : Int32} {N : Nat} (hdg : decode (mcc M) pc = .ok (.newarray .int, 2)) (hw : Cond.arrayClass .int ∈ GW) (h0 : ¬ z < 0) (hN : z.toNatClampNeg = N) (hby : N * 4 ≤ 536870912) (hroom : k + 1 ≤ (mR M).cells ∧ n + N ≤ (mR M).slots) (kk : V X M F (k + 1) (n + N) (pc + 2) lv (.ref h.1 :: rest) (hnew h (aL (kA X 0) (List.replicate N 0)))) : V X M F k n pc lv (.int z :: rest) h := fun p e s m args below meth c H locs ls hF hR hS hL => by
  obtain ⟨hx, hb, hml, hown, hts, hKS, -⟩ := id hF
  refine va_newaK (atype := .int) hx hb (hts _ hw) rfl hdg rfl h0 hN hby hroom.1 hroom.2 hR.1 fun H1 cA e1 z1 o1 hAr hNm => ?_
  have hcA : cA = kA X 0 := Option.some.inj (hNm.symm.trans (hKS.1.2 0 _ rfl).2)
  subst hcA
  have z2 : H1.size = H.size + 1 := by rw [z1, hR.1]
  have o2 : ∀ q : Nat, q < H.size → H1[q]? = H[q]? := fun q hq => o1 q (by rw [← hR.1]; exact hq)
  refine kk p e s m args below meth c H1 locs ls hF (hR.new ?_ z2 o2) (V.sNew hS z2 o2) hL
  show H1[h.1]? = some (vp_cell _ _)
  rw [e1, vp_cell_i]
  refine congrArg some (arrV_congr (by simp) fun j hj => ?_)
  simp [List.getD_eq_getElem?_getD, List.getElem?_replicate, hj]
  rfl
theorem V_newc {z : Int32} {N : Nat} (hdg : decode (mcc M) pc = .ok (.newarray .char, 2)) (hw : Cond.arrayClass .char ∈ GW) (h0 : ¬ z < 0) (hN : z.toNatClampNeg = N) (hby : N * 2 ≤ 536870912) (hroom : k + 1 ≤ (mR M).cells ∧ n + N ≤ (mR M).slots) (kk : V X M F (k + 1) (n + N) (pc + 2) lv (.ref h.1 :: rest) (hnew h (aL (kA X 1) (List.replicate N 0)))) : V X M F k n pc lv (.int z :: rest) h := fun p e s m args below meth c H locs ls hF hR hS hL => by
  obtain ⟨hx, hb, hml, hown, hts, hKS, -⟩ := id hF
  refine va_newaK (atype := .char) hx hb (hts _ hw) rfl hdg rfl h0 hN hby hroom.1 hroom.2 hR.1 fun H1 cA e1 z1 o1 hAr hNm => ?_
  have hcA : cA = kA X 1 := Option.some.inj (hNm.symm.trans (hKS.1.2 1 _ rfl).2)
  subst hcA
  have z2 : H1.size = H.size + 1 := by rw [z1, hR.1]
  have o2 : ∀ q : Nat, q < H.size → H1[q]? = H[q]? := fun q hq => o1 q (by rw [← hR.1]; exact hq)
  refine kk p e s m args below meth c H1 locs ls hF (hR.new ?_ z2 o2) (V.sNew hS z2 o2) hL
  show H1[h.1]? = some (vp_cell _ _)
  rw [e1, vp_cell_i]
  refine congrArg some (arrV_congr (by simp) fun j hj => ?_)
  simp [List.getD_eq_getElem?_getD, List.getElem?_replicate, hj]
  rfl
/-- constructors -/
theorem V_callI {M' : MI} {As : List Value} {b idx : Nat} {Z' : ZT} (hdg : decode (mcc M) pc = .ok (.invokespecial idx, 3)) (hcv : CallI (my M).cls idx M' As.length ∧ Cond.instanceMethod (my M') ∈ GW) (ht : mtab M' = []) (hret : mret M' = none) (hnm : (my M').name = "<init>") (hC : Ct X M' (.ref b :: As) h Z') (hRm : RoomOK M M' k n) (hst : (rest.map fun v => v.category).sum ≤ 8) {st : List Value} (hstk : st = As.reverse ++ .ref b :: rest)
    (ks : ∀ (h' : AH), Z' (.inl none) h' → V X M F (k + (mR M').cells) (n + (mR M').slots) (pc + 3) lv rest h')
    (kn : ∀ (v : Value) (h' : AH), ¬ Z' (.inl (some v)) h') (kx : ∀ (E : String) (h' : AH), ¬ Z' (.inr E) h') : V X M F k n pc lv st h := by
  refine V.back (A := .ref b :: As) (Z' := Z') (rest := rest) (k' := (mR M').cells) (n' := (mR M').slots) rfl ?_ (fun v h' hz => ?_) (fun E h' hz => absurd hz (kx E h'))
  · intro p e s m args below meth c H locs ls hF hR hS hL
    obtain ⟨g1, g2, g3, g4, g5, g6, -⟩ := hF
    have hb9 := hcv.1.b ht g5 (s := s) (args := args) (R := mR M) ⟨hRm.1, hRm.2.1⟩
    rw [hret] at hb9
    intro T hT X0
    obtain ⟨v, st₀, t, T', L, e0, X', hLf, e1, e2, hq, stp⟩ : ∃ (v : Option Value) (st₀ t T' : State) (L : List Loc), st₀.heap = H ∧ Stand p (kl X) e (mR M) s m args below meth c T' (locs ++ L) (k + (mR M').cells) (n + (mR M').slots) ∧ (∀ q ∈ L, kFr X q.base) ∧ T'.heap = t.heap ∧ T'.vm = t.vm ∧ zQ X Z' (.ref b :: As : List Value).toArray st₀ (.returned v) t ∧ Goes p e below T (F0 m pc ls st) T' { (F0 m pc ls st) with pc := pc + 3, stack := v.toList ++ rest } := by
      have hM : Met (kl X) (my M') (mcode M' :: GW) (mR M') (va_Pc (.ref b :: As) (kPc X h)) (zQ X Z') (mR M').cells (mR M').slots (kFr X) := by
        intro p e ha hc hk s m args below hf hap hP hK
        obtain ⟨kk9, o, q1, q2, q3, q4⟩ := hC p e ha hc hk s m args below hf hap hP hK
        rcases q4 with q4 | ⟨q, -, E, ce, L, ⟨⟨h', hz, -⟩, -⟩, -⟩
        · exact ⟨kk9, o, q1, q2, q3, q4⟩
        · exact absurd hz (kx E h')
      exact va_runI (Ts := GW) ⟨g1, g2, g3, g4, g5⟩ hM ⟨hb9, hnm, g5 _ hcv.2⟩ ⟨kPc_blind, fun U hU hW => ⟨rfl, by rw [hU]; exact hR, g6.moved hW⟩⟩ rfl rfl hL.1 hstk (lv_room hst) hdg ⟨hRm.2.2.1, hRm.2.2.2⟩ T hT X0
    exact Or.inl ⟨v, st₀, t, T', L, e0, X', hLf, e1, e2, hq, stp⟩
  · cases v with
    | none => exact ks h' hz
    | some v => exact absurd hz (kn v h')
theorem V_objInit {a idx : Nat} (hdg : decode (mcc M) pc = .ok (.invokespecial idx, 3)) (hw : Cond.methodLink (my M).cls idx Lib.objectInit ∈ GW ∧ Cond.instanceMethod Lib.objectInit ∈ GW ∧ Cond.code Lib.objectInit ⟨#[0xb1]⟩ 1 none ∈ GW) (hroom : 1 ≤ (mR M).frames ∧ (rest.map fun v => v.category).sum + 12 ≤ (mR M).locals) (kk : V X M F k n (pc + 3) lv rest h) : V X M F k n pc lv (.ref a :: rest) h := fun p e s m args below meth c H locs ls hF hR hS hL => by
  obtain ⟨hx, hb, hml, hown, hts, -⟩ := id hF
  exact W.objInit hx hb hown (hts _ hw.1) (hts _ hw.2.1) (hts _ hw.2.2) rfl (hL.1.trans hml.symm) rfl hdg hroom.1 (by show 2 * 0 + _ + 12 ≤ _; omega) (kk p e s m args below meth c H locs ls hF hR hS hL)
end VW2
