/-! ===== calls of methods with a packed contract; small rows for counters ===== -/
section VCL
variable {X : KX} {M : MI} {F : FT} {k n pc : Nat} {lv lv' : List (Nat × Value)} {rest : List Value} {h : AH} {Z : ZT}
theorem VX.no {E : String} {h' : AH} {v : Option Value} {h0 : AH} {st : Prop} (hz : zR v h0 (.inr E) h') : st := by cases hz.1
theorem V_cVi {M' : MI} {As : List Value} {b ci idx N : Nat} {fs : List Value} {T : u_T} {r : Int32} (hdg : decode (mcc M) pc = .ok (.invokevirtual idx, 3)) (hcv : CallV (my M).cls idx M' As.length) (hC : Ct X M' (.ref b :: As) h (zR (some (.int r)) h)) (hb : h.2 b = some (.inr (ci, fs))) (hcl : vwCl[ci]? = some ((my M').cls, T, N)) (hRm : RoomOK M M' k n) (hst : (rest.map fun v => v.category).sum ≤ 8) {st : List Value} (hstk : st = As.reverse ++ .ref b :: rest) (kk : V X M F (k + (mR M').cells) (n + (mR M').slots) (pc + 3) lv (.int r :: rest) h) : V X M F k n pc lv st h :=
  V_callV hdg hcv hC hb hcl hRm hst hstk (fun v h' hz => by obtain ⟨e, rfl⟩ := hz; cases e; exact kk) (fun E h' hz => by cases hz.1)
theorem V_cSi {M' : MI} {As : List Value} {idx : Nat} {r : Int32} (hdg : decode (mcc M) pc = .ok (.invokestatic idx, 3)) (hcv : CallS (my M).cls idx M' As.length) (hC : Ct X M' As h (zR (some (.int r)) h)) (hRm : RoomOK M M' k n) (hst : (rest.map fun v => v.category).sum ≤ 8) {st : List Value} (hstk : st = As.reverse ++ rest) (kk : V X M F (k + (mR M').cells) (n + (mR M').slots) (pc + 3) lv (.int r :: rest) h) : V X M F k n pc lv st h :=
  V_callS hdg hcv hC hRm hst hstk (fun v h' hz => by obtain ⟨e, rfl⟩ := hz; cases e; exact kk) (fun E h' hz => by cases hz.1)
theorem V_cVmi {M' : MI} {As : List Value} {b ci idx N : Nat} {fs : List Value} {T : u_T} {r : Int32} {Q : AH → Prop} (hdg : decode (mcc M) pc = .ok (.invokevirtual idx, 3)) (hcv : CallV (my M).cls idx M' As.length) (hC : Ct X M' (.ref b :: As) h (zM (some (.int r)) Q)) (hb : h.2 b = some (.inr (ci, fs))) (hcl : vwCl[ci]? = some ((my M').cls, T, N)) (hRm : RoomOK M M' k n) (hst : (rest.map fun v => v.category).sum ≤ 8) {st : List Value} (hstk : st = As.reverse ++ .ref b :: rest) (kk : ∀ h', Q h' → V X M F (k + (mR M').cells) (n + (mR M').slots) (pc + 3) lv (.int r :: rest) h') : V X M F k n pc lv st h :=
  V_callV hdg hcv hC hb hcl hRm hst hstk (fun v h' hz => by obtain ⟨e, q⟩ := hz; cases e; exact kk h' q) (fun E h' hz => by cases hz.1)
theorem V_cVmv {M' : MI} {As : List Value} {b ci idx N : Nat} {fs : List Value} {T : u_T} {Q : AH → Prop} (hdg : decode (mcc M) pc = .ok (.invokevirtual idx, 3)) (hcv : CallV (my M).cls idx M' As.length) (hC : Ct X M' (.ref b :: As) h (zM none Q)) (hb : h.2 b = some (.inr (ci, fs))) (hcl : vwCl[ci]? = some ((my M').cls, T, N)) (hRm : RoomOK M M' k n) (hst : (rest.map fun v => v.category).sum ≤ 8) {st : List Value} (hstk : st = As.reverse ++ .ref b :: rest) (kk : ∀ h', Q h' → V X M F (k + (mR M').cells) (n + (mR M').slots) (pc + 3) lv rest h') : V X M F k n pc lv st h :=
  V_callV hdg hcv hC hb hcl hRm hst hstk (fun v h' hz => by obtain ⟨e, q⟩ := hz; cases e; exact kk h' q) (fun E h' hz => by cases hz.1)
end VCL
theorem iinc1 (a : Nat) : nI a + Int32.ofInt 1 = nI (a + 1) := nI_1 a
theorem bN0 : narrow .boolean (.int 0) = .int 0 := rfl
theorem bN1 : narrow .boolean (.int 1) = .int 1 := rfl
theorem bN {x : Int32} (h : x = 0 ∨ x = 1) : narrow .boolean (.int x) = .int x := by rcases h with rfl | rfl <;> rfl
