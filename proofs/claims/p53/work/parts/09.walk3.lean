/-! ===== THE WALK, third part: Math.max and min, whole copies, Arrays.fill ===== -/
def imax (x y : Int32) : Int32 := if x < y then y else x
def imin (x y : Int32) : Int32 := if y < x then y else x
def SmallN (x : Int32) (b : Nat) : Prop := x = nI x.toNatClampNeg ∧ x.toNatClampNeg ≤ b
theorem sm_nI {j b : Nat} (h : j ≤ b) (hb : b < 2 ^ 31) : SmallN (nI j) b := by
  have e : (nI j).toNatClampNeg = j := nI_clamp (by omega)
  exact ⟨by rw [e], by rw [e]; exact h⟩
theorem sm_le {x : Int32} {b : Nat} (h : SmallN x b) : x ≤ nI x.toNatClampNeg := by rw [← h.1]; exact Int32.le_refl x
theorem sm_ge {x : Int32} {b i : Nat} (h : SmallN x b) (hi : i < x.toNatClampNeg) (hb : b < 2 ^ 31) : ¬ x ≤ nI i := fun c => by
  rw [h.1] at c
  have hb2 := h.2
  exact nI_ge hi (by omega) c
theorem sm_of {x c : Int32} {b : Nat} (h0 : ¬ x < 0) (h1 : ¬ c < x) (hc : c = nI b) (hb : b < 2 ^ 31) : SmallN x b := by
  obtain ⟨j, hj, rfl⟩ := nI_of h0
  refine sm_nI ?_ hb
  rcases Nat.lt_or_ge b j with g | g
  · exact absurd (by rw [hc]; exact nI_lt g hj) h1
  · exact g
theorem i1_0 {x : Int32} (h : ¬ x < 1) : ¬ x < 0 := fun c => h (Int32.lt_trans c (by decide))
section VW3
variable {X : KX} {M : MI} {F : FT} {k n pc : Nat} {lv lv' : List (Nat × Value)} {rest : List Value} {h : AH} {Z : ZT}
theorem V_mmax {idx : Nat} {x y : Int32} (hdg : decode (mcc M) pc = .ok (.invokestatic idx, 3)) (hw : Cond.methodLink (my M).cls idx Lib.Math.max.name ∈ GW) (hw2 : Cond.static Lib.Math.max.name ∈ GW ∧ Cond.initialized "java/lang/Math" ∈ GW ∧ Cond.code Lib.Math.max.name Lib.Math.max.code 2 (some .int) ∈ GW) (hroom : 1 ≤ (mR M).frames ∧ (rest.map fun v => v.category).sum + 13 ≤ (mR M).locals ∧ k ≤ (mR M).cells ∧ n ≤ (mR M).slots) (kk : V X M F k n (pc + 3) lv (.int (imax x y) :: rest) h) : V X M F k n pc lv (.int y :: .int x :: rest) h := fun p e s m args below meth c H locs ls hF hR hS hL => va_mmax hF.1 hF.2.1 (hF.2.2.1.trans hL.1.symm) hF.2.2.2.1 (hF.2.2.2.2.1 _ hw) (hF.2.2.2.2.1 _ hw2.1) (hF.2.2.2.2.1 _ hw2.2.1) (hF.2.2.2.2.1 _ hw2.2.2) hroom.1 hroom.2.1 hroom.2.2.1 hroom.2.2.2 hdg (kk p e s m args below meth c H locs ls hF hR hS hL)
theorem V_mmin {idx : Nat} {x y : Int32} (hdg : decode (mcc M) pc = .ok (.invokestatic idx, 3)) (hw : Cond.methodLink (my M).cls idx Lib.Math.min.name ∈ GW) (hw2 : Cond.static Lib.Math.min.name ∈ GW ∧ Cond.initialized "java/lang/Math" ∈ GW ∧ Cond.code Lib.Math.min.name Lib.Math.min.code 2 (some .int) ∈ GW) (hroom : 1 ≤ (mR M).frames ∧ (rest.map fun v => v.category).sum + 13 ≤ (mR M).locals ∧ k ≤ (mR M).cells ∧ n ≤ (mR M).slots) (kk : V X M F k n (pc + 3) lv (.int (imin x y) :: rest) h) : V X M F k n pc lv (.int y :: .int x :: rest) h := fun p e s m args below meth c H locs ls hF hR hS hL => va_mmin hF.1 hF.2.1 (hF.2.2.1.trans hL.1.symm) hF.2.2.2.1 (hF.2.2.2.2.1 _ hw) (hF.2.2.2.2.1 _ hw2.1) (hF.2.2.2.2.1 _ hw2.2.1) (hF.2.2.2.2.1 _ hw2.2.2) hroom.1 hroom.2.1 hroom.2.2.1 hroom.2.2.2 hdg (kk p e s m args below meth c H locs ls hF hR hS hL)
theorem V_copy {a0 a idx t : Nat} {L0 L1 : List Int32} {ty : FieldType} {z : Int32} (hdg : decode (mcc M) pc = .ok (.invokestatic idx, 3)) (hw : Cond.methodLink (my M).cls idx arraycopyName ∈ GW) (hw2 : Cond.native arraycopyName ∈ GW ∧ Cond.static arraycopyName ∈ GW ∧ Cond.initialized "java/lang/System" ∈ GW) (ht : (kT X)[t]? = some (kA X t, ty)) (hprim : refKind ty = false) (ha0 : h.2 a0 = some (aL (kA X t) L0)) (ha : h.2 a = some (aL (kA X t) L1)) (hz : z = nI L0.length) (hl : L1.length = L0.length) (hsm : L0.length < 2 ^ 31) (hfit : ∀ i, i < L0.length → fits ty (.int (L0.getD i 0)) = true) (hroom : 1 ≤ (mR M).frames ∧ (rest.map fun v => v.category).sum + (nativeFrameWords "java/lang/System" "arraycopy" 5 + 11) ≤ (mR M).locals) (kk : V X M F k n (pc + 3) lv rest (hput h a (aL (kA X t) L0))) : V X M F k n pc lv (.int z :: .int 0 :: .ref a :: .int 0 :: .ref a0 :: rest) h := by
  intro p e s m args below meth c H locs ls hF hR hS hL T hT X0
  obtain ⟨hx, hb, hml, hown, hts, hKS, -⟩ := id hF
  have hK := hKS.1
  have hc0 : H[a0]? = some (vp_cell (kA X t) (L0.length, .inl (fun j => L0.getD j 0))) := hR.cell ha0
  have hc1 : H[a]? = some (vp_cell (kA X t) (L1.length, .inl (fun j => L1.getD j 0))) := hR.cell ha
  have hz1 : z.toInt = (L0.length : Int) := by rw [hz]; exact nI_toInt hsm
  have hz2 : z.toNatClampNeg = L0.length := by rw [hz]; exact nI_clamp hsm
  have z0 : (0 : Int32).toNatClampNeg = 0 := rfl
  obtain ⟨-, k0, hk0, cm0, hkk0⟩ := (hK.2 t _ ht).1 L0.length (fun j => .int (L0.getD j 0))
  obtain ⟨-, k1, hk1, cm1, hkk1⟩ := (hK.2 t _ ht).1 L1.length (fun j => .int (L1.getD j 0))
  obtain ⟨vm', X', step⟩ := X0.arraycopy hx hown (hts _ hw) (hts _ hw2.1) (hts _ hw2.2.1) (hts _ hw2.2.2) (src := a0) (dst := a) (cs := vp_cell (kA X t) (L0.length, .inl (fun j => L0.getD j 0))) (cd := vp_cell (kA X t) (L1.length, .inl (fun j => L1.getD j 0))) (srcPos := 0) (destPos := 0) (n := z) (by rw [hT]; exact hc0) (by rw [hT]; exact hc1)
    (fun _ h => by cases h) (fun _ h => by cases h) (fun h => by cases h) (fun h => by cases h) hk0 hk1 hkk0 hkk1 (by simp [hprim]) (by decide) (by decide) (by rw [Int32.lt_iff_toInt_lt, hz1, Int32.toInt_zero]; omega)
    (by rw [hz1]; show ¬ _ > ((arrV (kA X t) L0.length (fun j => .int (L0.getD j 0))).slots.size : Int); rw [arrV_size]; simp)
    (by rw [hz1]; show ¬ _ > ((arrV (kA X t) L1.length (fun j => .int (L1.getD j 0))).slots.size : Int); rw [arrV_size, hl]; simp)
    (fun vm₁ _ i hi => by
      rw [hz2] at hi
      have e : (vp_cell (kA X t) (L0.length, .inl (fun j => L0.getD j 0))).slots.getD ((0 : Int32).toNatClampNeg + i) .null = .int (L0.getD i 0) := by
        show (arrV (kA X t) L0.length (fun j => .int (L0.getD j 0))).slots.getD _ _ = _
        rw [z0, Nat.zero_add, Array.getD_eq_getD_getElem?, arrV_read _ _ hi]
        rfl
      refine ⟨?_, ?_⟩
      · rw [e]
        exact hfit i hi
      · rw [e]
        exact trivial)
    (g := F0 m pc ls (.int z :: .int 0 :: .ref a :: .int 0 :: .ref a0 :: rest)) rfl (by rw [hml]; exact hL.1) (rest := rest) rfl (by rw [hb]; exact hdg) hroom.1 (by show 2 * 0 + _ + _ ≤ _; omega)
  have e1 : copied (vp_cell (kA X t) (L0.length, .inl (fun j => L0.getD j 0))) (vp_cell (kA X t) (L1.length, .inl (fun j => L1.getD j 0))) 0 0 z = vp_cell (kA X t) (L0.length, .inl (fun j => L0.getD j 0)) := by
    have e2 : copied (vp_cell (kA X t) (L0.length, .inl (fun j => L0.getD j 0))) (vp_cell (kA X t) (L1.length, .inl (fun j => L1.getD j 0))) 0 0 z = vp_cell (kA X t) (L1.length, .inl (va_cpy (fun j => L0.getD j 0) (fun j => L1.getD j 0) (0 : Int32).toNatClampNeg (0 : Int32).toNatClampNeg z.toNatClampNeg)) := va_copied (fun z => .int z) (kA X t) (kA X t) (fun j => L0.getD j 0) (fun j => L1.getD j 0) (by rw [hz2, z0]; omega)
    rw [e2, vp_cell_i, vp_cell_i]
    refine arrV_congr hl fun j hj => ?_
    rw [hz2, z0, pk_cpy_in (by omega) (by omega)]
    simp
  rw [e1] at X' step
  have hl9 : a < H.size := (Array.getElem?_eq_some_iff.mp hc1).1
  have hheap : ((T.setVm vm').setCell a (vp_cell (kA X t) (L0.length, .inl (fun j => L0.getD j 0)))).heap = H.setIfInBounds a (vp_cell (kA X t) (L0.length, .inl (fun j => L0.getD j 0))) := by rw [← hT]; rfl
  have oq : ∀ q : Nat, q ≠ a → (H.setIfInBounds a (vp_cell (kA X t) (L0.length, .inl (fun j => L0.getD j 0))))[q]? = H[q]? := fun q hq => by simp [Array.getElem?_setIfInBounds, Ne.symm hq]
  have hA := (hR.2.2.1 a _ ha).1
  obtain ⟨t9, a1, b1⟩ := kk p e s m args below meth c _ _ ls hF (hR.put ha (show (H.setIfInBounds a _)[a]? = some _ by simp [Array.getElem?_setIfInBounds, hl9]) (by simp) oq) ⟨by simp; exact hS.1, fun q g1 g2 => by
      rw [oq q (fun e => g2 (by rw [e]; exact hA))]
      exact hS.2.1 q g1 g2, fun q hq => by
      rcases List.mem_append.mp hq with h | h
      · exact hS.2.2 q h
      · obtain ⟨z, -, hz⟩ := List.mem_map.mp h
        rw [← hz]
        exact hA⟩ hL _ hheap X'
  exact ⟨t9, step t9 a1, b1⟩
end VW3
theorem wMax : Cond.static Lib.Math.max.name ∈ GW ∧ Cond.initialized "java/lang/Math" ∈ GW ∧ Cond.code Lib.Math.max.name Lib.Math.max.code 2 (some .int) ∈ GW := ⟨gw_tab 641 (by decide +kernel) (by decide +kernel), gw_tab 19 (by decide +kernel) (by decide +kernel), gw_tab 642 (by decide +kernel) (by decide +kernel)⟩
theorem wMin : Cond.static Lib.Math.min.name ∈ GW ∧ Cond.initialized "java/lang/Math" ∈ GW ∧ Cond.code Lib.Math.min.name Lib.Math.min.code 2 (some .int) ∈ GW := ⟨gw_tab 419 (by decide +kernel) (by decide +kernel), gw_tab 19 (by decide +kernel) (by decide +kernel), gw_tab 420 (by decide +kernel) (by decide +kernel)⟩
theorem wCpy : Cond.native arraycopyName ∈ GW ∧ Cond.static arraycopyName ∈ GW ∧ Cond.initialized "java/lang/System" ∈ GW := ⟨gw_tab 317 (by decide +kernel) (by decide +kernel), gw_tab 316 (by decide +kernel) (by decide +kernel), gw_tab 18 (by decide +kernel) (by decide +kernel)⟩
theorem mlX2_52 : Cond.methodLink RX2 52 Lib.Math.max.name ∈ GW := gw_tab 856 (by decide +kernel) (by decide +kernel)
theorem mlX3_50 : Cond.methodLink RX3 50 arraycopyName ∈ GW := gw_tab 315 (by decide +kernel) (by decide +kernel)
theorem mlX5_33 : Cond.methodLink RX5 33 Lib.Math.min.name ∈ GW := gw_tab 418 (by decide +kernel) (by decide +kernel)
theorem mlX6_69 : Cond.methodLink RX6 69 arraycopyName ∈ GW := gw_tab 318 (by decide +kernel) (by decide +kernel)
theorem mlX6_162 : Cond.methodLink RX6 162 Lib.Math.max.name ∈ GW := gw_tab 640 (by decide +kernel) (by decide +kernel)
theorem mlJ5_138 : Cond.methodLink RJ5 138 Lib.Math.min.name ∈ GW := gw_tab 845 (by decide +kernel) (by decide +kernel)
theorem mlJ0_212 : Cond.methodLink RJ0 212 arraycopyName ∈ GW := gw_tab 909 (by decide +kernel) (by decide +kernel)
theorem mlJ7_150 : Cond.methodLink RJ7 150 arraycopyName ∈ GW := gw_tab 719 (by decide +kernel) (by decide +kernel)
theorem mlJ7_304 : Cond.methodLink RJ7 304 Lib.Math.min.name ∈ GW := gw_tab 718 (by decide +kernel) (by decide +kernel)
theorem mlJ8_194 : Cond.methodLink RJ8 194 Lib.Math.max.name ∈ GW := gw_tab 702 (by decide +kernel) (by decide +kernel)
