/-! ===== Arrays.fill over ints ===== -/
abbrev mJ7_fill_53178 : MI := (yJ7_fill_53178, cJ7_fill_53178, 4, (Option.none : Option Jvm.ClassFile.FieldType), [], { frames := 1, cells := 0, slots := 0, locals := 20 })
theorem cdJ7_fill_53178 : mcode mJ7_fill_53178 ∈ GW := gw_tab 57 (by decide +kernel) (by decide +kernel)
theorem cvX3_44 : CallS RX3 44 mJ7_fill_53178 2 := ⟨⟨gw_tab 55 (by decide +kernel) (by decide +kernel), gw_tab 4 (by decide +kernel) (by decide +kernel), cdJ7_fill_53178, by decide +kernel, by decide +kernel, by decide +kernel⟩, rfl, gw_tab 56 (by decide +kernel) (by decide +kernel)⟩
theorem cvX6_59 : CallS RX6 59 mJ7_fill_53178 2 := ⟨⟨gw_tab 103 (by decide +kernel) (by decide +kernel), gw_tab 4 (by decide +kernel) (by decide +kernel), cdJ7_fill_53178, by decide +kernel, by decide +kernel, by decide +kernel⟩, rfl, gw_tab 56 (by decide +kernel) (by decide +kernel)⟩
theorem hput2 {h : AH} {a : Nat} {e e' : va_E} : hput (hput h a e) a e' = hput h a e' := by
  unfold hput
  refine Prod.ext rfl (funext fun q => ?_)
  by_cases hq : q = a <;> simp [hq]
theorem fill_step {L : List Int32} {v : Int32} {i : Nat} (hi : i < L.length) (hb : L.length < 2 ^ 31) : wr (List.replicate i v ++ L.drop i) (nI i) v = List.replicate (i + 1) v ++ L.drop (i + 1) := by
  unfold wr
  rw [nI_clamp (by omega), List.set_append_right _ _ (by simp)]
  simp only [List.length_replicate, Nat.sub_self]
  rw [List.drop_eq_getElem_cons hi, List.set_cons_zero, List.replicate_succ', List.append_assoc]
  rfl
set_option maxRecDepth 20000 in
set_option maxHeartbeats 2000000 in
theorem c_J7_fill_53178 {X : KX} (hxs : X.1.stackTraces = false) {h : AH} {a : Nat} {L : List Int32} (ha : h.2 a = some (aL (kA X 0) L)) (hb : L.length < 2 ^ 30) (v : Int32) : Ct X mJ7_fill_53178 [.ref a, .int v] h (zM none (fun h' => h' = hput h a (aL (kA X 0) (List.replicate L.length v)))) := by
  refine Ct.of (by decide) rfl (Nat.le_of_ble_eq_true rfl) rfl hxs ?_
  have L5 : ∀ (f i : Nat), i + f = L.length → ∀ (h0 : AH), h0 = hput h a (aL (kA X 0) (List.replicate i v ++ L.drop i)) → V X mJ7_fill_53178 (zF X mJ7_fill_53178 (zM none (fun h' => h' = hput h a (aL (kA X 0) (List.replicate L.length v))))) 0 0 5 [(0, .ref a), (1, .int v), (2, .int (nI i)), (3, .int (nI L.length))] [] h0 := by
    intro f
    induction f with
    | zero =>
      intro i hi h0 e0
      obtain rfl : i = L.length := by omega
      refine V_iload_n dJ7_fill_53178_5 2 rfl ?_
      refine V_iload_n dJ7_fill_53178_6 3 rfl ?_
      refine V_icmp_ge (tgt := 20) dJ7_fill_53178_7 (by decide) (fun _ => ?_) (fun c9 => absurd (Int32.le_refl _) c9)
      refine V_vret dJ7_fill_53178_20 rfl ⟨Nat.le_of_ble_eq_true rfl, Nat.le_of_ble_eq_true rfl⟩ ⟨rfl, ?_⟩
      rw [e0, List.drop_length, List.append_nil]
    | succ f ih =>
      intro i hi h0 e0
      refine V_iload_n dJ7_fill_53178_5 2 rfl ?_
      refine V_iload_n dJ7_fill_53178_6 3 rfl ?_
      refine V_icmp_ge (tgt := 20) dJ7_fill_53178_7 (by decide) (fun c9 => absurd c9 (nI_ge (by omega) (by omega))) (fun _ => ?_)
      refine V_aload_n dJ7_fill_53178_10 0 rfl ?_
      refine V_iload_n dJ7_fill_53178_11 2 rfl ?_
      refine V_iload_n dJ7_fill_53178_12 1 rfl ?_
      have hlen : (List.replicate i v ++ L.drop i).length = L.length := by simp; omega
      refine V_iast (L := List.replicate i v ++ L.drop i) dJ7_fill_53178_13 (by rw [e0]; exact hput_at) (by rw [hlen]; exact vp_in_nI (by omega) (by omega)) ?_
      refine V_iinc (v := nI (i + 1)) (lv' := [(2, .int (nI (i + 1))), (0, .ref a), (1, .int v), (3, .int (nI L.length))]) dJ7_fill_53178_14 2 rfl (iinc1 i) (by decide) rfl ?_
      refine V_goto (tgt := 5) dJ7_fill_53178_17 (by decide) ?_
      refine V.loc [1, 2, 0, 3] rfl ?_
      exact ih (i + 1) (by omega) _ (by rw [e0, hput2, fill_step (by omega) (by omega)])
  refine V_iconst (v := 0) dJ7_fill_53178_0 (by decide) ?_
  refine V_istore_n (lv' := [(2, .int 0), (0, .ref a), (1, .int v)]) dJ7_fill_53178_1 rfl (by decide) rfl ?_
  refine V_aload_n dJ7_fill_53178_2 1 rfl ?_
  refine V_alen (t := 0) (v := nI L.length) dJ7_fill_53178_3 rfl ha rfl ?_
  refine V_istore_n (lv' := [(3, .int (nI L.length)), (2, .int 0), (0, .ref a), (1, .int v)]) dJ7_fill_53178_4 rfl (by decide) rfl ?_
  refine V.loc [2, 3, 1, 0] rfl ?_
  refine L5 L.length 0 (by omega) h ?_
  refine Prod.ext rfl (funext fun q => ?_)
  show h.2 q = if q = a then some (aL (kA X 0) L) else h.2 q
  by_cases hq : q = a
  · rw [if_pos hq, hq, ha]
  · rw [if_neg hq]
