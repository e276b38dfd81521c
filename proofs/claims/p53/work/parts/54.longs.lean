/-! ===== a row of longs ===== -/
section VXL
variable {X : KX} {M : MI} {F : FT} {k n pc : Nat} {lv lv' : List (Nat × Value)} {rest : List Value} {h : AH} {Z : ZT}
theorem wAl : Cond.arrayClass .long ∈ GW := gw_tab 1480 (by decide +kernel) (by decide +kernel)
def wrJ (L : List Int64) (i : Int32) (x : Int64) : List Int64 := L.set i.toNatClampNeg x
theorem V_last {a : Nat} {L : List Int64} {i : Int32} {x : Int64} (hdg : decode (mcc M) pc = .ok (.lastore, 1)) (ha : h.2 a = some (aJ (kA X 3) L)) (hin : vp_in i L.length) (kk : V X M F k n (pc + 1) lv rest (hput h a (aJ (kA X 3) (wrJ L i x)))) : V X M F k n pc lv (.long x :: .int i :: .ref a :: rest) h := fun p e s m args below meth c H locs ls hF hR hS hL => by
  refine W.last hF.1 hF.2.1 (hR.cell ha) ((hF.2.2.2.2.2.1.1.2 3 _ rfl).1 L.length (fun j => .long (L.getD j 0))) (fun q => by cases q) (by show ¬ (i < 0 ∨ (arrV _ _ _).slots.size ≤ _); rw [arrV_size]; exact hin) rfl rfl hdg fun H1 e1 z oq => ?_
  refine kk p e s m args below meth c H1 _ ls hF (hR.put ha ?_ z oq) (hS.put z oq (hR.2.2.1 a _ ha).1) hL
  show H1[a]? = some (vp_cell _ _)
  rw [e1, vp_cell_l, vp_cell_l, arrV_store]
  refine congrArg some (arrV_congr (by simp [wrJ]) fun j hj => ?_)
  by_cases hq : j = i.toNatClampNeg
  · subst hq
    have hg : (wrJ L i x).getD i.toNatClampNeg 0 = x := by simp [wrJ, List.getD_eq_getElem?_getD, hj]
    show updV _ _ _ _ = Value.long ((wrJ L i x).getD i.toNatClampNeg 0)
    rw [hg]
    simp [updV]
  · have hg : (wrJ L i x).getD j 0 = L.getD j 0 := by simp [wrJ, List.getD_eq_getElem?_getD, List.getElem?_set_ne (Ne.symm hq)]
    show updV _ _ _ _ = Value.long ((wrJ L i x).getD j 0)
    rw [hg]
    simp [updV, hq]
theorem V_newl {z : Int32} {N : Nat} (hdg : decode (mcc M) pc = .ok (.newarray .long, 2)) (h0 : ¬ z < 0) (hN : z.toNatClampNeg = N) (hby : N * 8 ≤ 536870912) (hroom : k + 1 ≤ (mR M).cells ∧ n + N ≤ (mR M).slots) (kk : V X M F (k + 1) (n + N) (pc + 2) lv (.ref h.1 :: rest) (hnew h (aJ (kA X 3) (List.replicate N 0)))) : V X M F k n pc lv (.int z :: rest) h := fun p e s m args below meth c H locs ls hF hR hS hL => by
  obtain ⟨hx, hb, hml, hown, hts, hKS, -⟩ := id hF
  refine va_newaK (atype := .long) hx hb (hts _ wAl) rfl hdg rfl h0 hN hby hroom.1 hroom.2 hR.1 fun H1 cA e1 z1 o1 hAr hNm => ?_
  have hcA : cA = kA X 3 := Option.some.inj (hNm.symm.trans (hKS.1.2 3 _ rfl).2)
  subst hcA
  have z2 : H1.size = H.size + 1 := by rw [z1, hR.1]
  have o2 : ∀ q : Nat, q < H.size → H1[q]? = H[q]? := fun q hq => o1 q (by rw [← hR.1]; exact hq)
  refine kk p e s m args below meth c H1 locs ls hF (hR.new ?_ z2 o2) (V.sNew hS z2 o2) hL
  show H1[h.1]? = some (vp_cell _ _)
  rw [e1, vp_cell_l]
  refine congrArg some (arrV_congr (by simp) fun j hj => ?_)
  simp [List.getD_eq_getElem?_getD, List.getElem?_replicate, hj]
  rfl
end VXL
