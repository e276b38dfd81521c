/-! ===== THE WALK, fourth part: what is given, throws, handlers, methods with a table ===== -/
def hbump (q : Nat) (h : AH) : AH := (q, h.2)
def outT (L : List String) : Int32 ⊕ Nat → Out
  | .inl v => .inl (some (.int v))
  | .inr j => .inr (L.getD j "")
/-- returns an int, or throws one of L -/
def zT (L : List String) (r : Int32 ⊕ Nat) (Q : AH → Prop) : ZT := fun o h' => o = outT L r ∧ Q h'
/-- the two rows that every throw reads -/
def GZ (X : KX) : Prop := ∀ U : State, kG X U → vx_Zq Bundle.tN "UNASSIGNED_STACK" Bundle.steD (kFr X) U (kH X) ∧ vx_Zq Bundle.tN "SUPPRESSED_SENTINEL" Bundle.listD (kFr X) U (kH X)
/-- words that the tables decide, and that stay true, though the kit's 'goodWord' doesn't name them -/
def isDCP : Cond → Bool
  | .declares _ => true
  | .castable _ _ => true
  | .privateMethod _ => true
  | _ => false
def GPW : List Cond := tables_1.filter isDCP
def GP (X : KX) : Prop := ∀ w ∈ GPW, ∀ U : State, kG X U → va_Nw w U
theorem dcp_ot {w : Cond} (h : isDCP w = true) : w.onTables = true := by
  cases w <;> first | rfl | (exact absurd h (by decide)) | (simp [isDCP] at h)
theorem gp_tab {w : Cond} (i : Nat) (h : tables_1[i]? = some w) (g : isDCP w = true) : w ∈ GPW := List.mem_filter.mpr ⟨List.mem_of_getElem? h, g⟩
theorem gw_throw {own E : String} {ic : Nat} {names : List String} (h : (vx_atS own ic E names).all (fun w => (lw_tbl.contains w && goodWord w) || (tables_1.contains w && isDCP w)) = true) : ∀ w ∈ vx_atS own ic E names, w ∈ GW ∨ w ∈ GPW := fun w hw => by
  have h1 := List.all_eq_true.mp h w hw
  simp only [Bool.or_eq_true, Bool.and_eq_true, List.contains_iff_mem] at h1
  rcases h1 with h1 | h1
  · exact Or.inl (List.mem_filter.mpr ⟨h1.1, h1.2⟩)
  · exact Or.inr (List.mem_filter.mpr ⟨h1.1, h1.2⟩)
section VX4
variable {X : KX} {M : MI} {F : FT} {k n pc : Nat} {lv lv' : List (Nat × Value)} {rest : List Value} {h : AH} {Z : ZT}
theorem Fx.kg {p : Program} {s : State} {m : MethodId} {args : Array Value} {meth : Method} {c : Code} (hF : Fx X M p s m args meth c) : kG X s := hF.2.2.2.2.2.1.2.2.2.2.1
theorem Fx.old {p : Program} {s : State} {m : MethodId} {args : Array Value} {meth : Method} {c : Code} (hF : Fx X M p s m args meth c) : ∀ a : Nat, a < (kH X).size → ¬ kFr X a → s.heap[a]? = (kH X)[a]? := hF.2.2.2.2.2.2.2.2.2.2.2.2
theorem V_gets {C nm d : String} {v : Value} {idx : Nat} (hdg : decode (mcc M) pc = .ok (.getstatic idx, 3)) (hw : Cond.fieldLink (my M).cls idx C nm d ∈ GW) (hZ : ∀ U : State, kG X U → va_Z C nm d v (kFr X) U (kH X)) (kk : V X M F k n (pc + 3) lv (v :: rest) h) : V X M F k n pc lv rest h := fun p e s m args below meth c H locs ls hF hR hS hL => va_gets hF.1 hF.2.1 ((hZ s hF.kg).kept hF.old) hS hF.2.2.2.1 (hF.2.2.2.2.1 _ hw) (fun _ z => z) hdg (kk p e s m args below meth c H locs ls hF hR hS hL)
theorem V_ldcS {tx : String} {idx q : Nat} (hdg : decode (mcc M) pc = .ok (.ldc idx, 2)) (hZ : ∀ U : State, kG X U → vk_R (my M).cls idx tx q U) (kk : V X M F k n (pc + 2) lv (.ref q :: rest) h) : V X M F k n pc lv rest h := fun p e s m args below meth c H locs ls hF hR hS hL => va_ldcS hF.1 hF.2.1 hF.2.2.2.1 (hZ s hF.kg) hdg (kk p e s m args below meth c H locs ls hF hR hS hL)
theorem V_getO {o nm d : String} {idx q : Nat} {v : Value} (hdg : decode (mcc M) pc = .ok (.getfield idx, 3)) (hw : Cond.fieldLink (my M).cls idx o nm d ∈ GW) (hE : ∀ U : State, kG X U → va_OF o nm d v q (kFr X) U (kH X)) (kk : V X M F k n (pc + 3) lv (v :: rest) h) : V X M F k n pc lv (.ref q :: rest) h := fun p e s m args below meth c H locs ls hF hR hS hL => vk_getf hF.1 hF.2.1 ((hE s hF.kg).kept hF.old) hS hF.2.2.2.1 (hF.2.2.2.2.1 _ hw) (fun _ z => z) hdg (kk p e s m args below meth c H locs ls hF hR hS hL)
theorem V_tb {t N : Nat} {f : Nat → Value} {i : Int32} {v : Value} (hdg : decode (mcc M) pc = .ok (.baload, 1)) (hE : ∀ U : State, kG X U → va_T .byte t N f (kFr X) U (kH X)) (hin : vp_in i N) (hv : f i.toNatClampNeg = v) (kk : V X M F k n (pc + 1) lv (v :: rest) h) : V X M F k n pc lv (.int i :: .ref t :: rest) h := fun p e s m args below meth c H locs ls hF hR hS hL => va_tb hF.1 hF.2.1 ((hE s hF.kg).kept hF.old) hS hin hv hdg (kk p e s m args below meth c H locs ls hF hR hS hL)
theorem V_ti {t N : Nat} {f : Nat → Value} {i : Int32} {v : Value} (hdg : decode (mcc M) pc = .ok (.iaload, 1)) (hE : ∀ U : State, kG X U → va_T .int t N f (kFr X) U (kH X)) (hin : vp_in i N) (hv : f i.toNatClampNeg = v) (kk : V X M F k n (pc + 1) lv (v :: rest) h) : V X M F k n pc lv (.int i :: .ref t :: rest) h := fun p e s m args below meth c H locs ls hF hR hS hL => va_ti hF.1 hF.2.1 ((hE s hF.kg).kept hF.old) hS hin hv hdg (kk p e s m args below meth c H locs ls hF hR hS hL)
theorem V_tq {t N : Nat} {C : String} {f : Nat → Value} {i : Int32} {v : Value} (hdg : decode (mcc M) pc = .ok (.aaload, 1)) (hE : ∀ U : State, kG X U → va_T (.object C) t N f (kFr X) U (kH X)) (hin : vp_in i N) (hv : f i.toNatClampNeg = v) (kk : V X M F k n (pc + 1) lv (v :: rest) h) : V X M F k n pc lv (.int i :: .ref t :: rest) h := fun p e s m args below meth c H locs ls hF hR hS hL => vb_tq hF.1 hF.2.1 ((hE s hF.kg).kept hF.old) hS hin hv hdg (kk p e s m args below meth c H locs ls hF hR hS hL)
theorem V_tlen {t N : Nat} {ty : FieldType} {f : Nat → Value} {v : Int32} (hdg : decode (mcc M) pc = .ok (.arraylength, 1)) (hE : ∀ U : State, kG X U → va_T ty t N f (kFr X) U (kH X)) (hv : Int32.ofNat N = v) (kk : V X M F k n (pc + 1) lv (.int v :: rest) h) : V X M F k n pc lv (.ref t :: rest) h := fun p e s m args below meth c H locs ls hF hR hS hL => va_tlen hF.1 hF.2.1 ((hE s hF.kg).kept hF.old) hS hv hdg (kk p e s m args below meth c H locs ls hF hR hS hL)
/-! the start of a method with handlers -/
theorem Ct.ofH {A : List Value} {l0 : List (Nat × Value)} (hy : plainName (my M).cls = true) (ht : (mtab M).isEmpty = false) (hA : (lg_sl A).length ≤ mnL M) (hl : lv_args 0 A = l0) (hxs : X.1.stackTraces = false) (kk : V X M (zF X M Z) 0 0 0 l0 [] h) : Ct X M A h Z := by
  have hm : mcode M = Cond.codeWith (my M) (mcc M) (mnL M) (mret M) (mtab M) := by unfold mcode; rw [ht]; rfl
  refine vx_ofWH (cc := mcc M) (maxL := mnL M) (ret := mret M) (hh := mtab M) hy (congrArg (· :: GW) hm) ?_
  intro p e s m args below meth c s₁ B hml hv
  obtain ⟨rfl, hR, hK⟩ := hv
  have hts := atoms_spec (ws := mcode M :: GW) B.pre
  have htl : c.exceptionTable.toList = tableOf (mtab M) := vx_table (x := my M) B (by rw [← hm]; exact hts _ List.mem_cons_self)
  rw [lg_entry_eq]
  exact kk p e s m _ below meth c s.heap [] _ ⟨B.exec, B.bytes, hml, findClass_of_methodNamed B.named, fun w hw => hts w (List.mem_cons_of_mem _ hw), hK, B.returns, B.notSynchronized, (name_of_methodNamed B.named B.method).1, htl, hxs, by rw [hR.1]; exact hR.2.1, hR.2.2.2⟩ hR va_S.rf (hl ▸ lv_entry A hA)
/-! a static call of a method with handlers -/
def CallH (own : String) (idx : Nat) (M' : MI) (na : Nat) : Prop := CallI own idx M' na ∧ (mtab M').isEmpty = false ∧ Cond.static (my M') ∈ GW
theorem V_callSH {M' : MI} {As : List Value} {idx : Nat} {Z' : ZT} (hdg : decode (mcc M) pc = .ok (.invokestatic idx, 3)) (hcv : CallH (my M).cls idx M' As.length) (hC : Ct X M' As h Z') (hRm : RoomOK M M' k n) (hst : (rest.map fun v => v.category).sum ≤ 8) {st : List Value} (hstk : st = As.reverse ++ rest)
    (ks : ∀ (v : Option Value) (h' : AH), Z' (.inl v) h' → V X M F (k + (mR M').cells) (n + (mR M').slots) (pc + 3) lv (v.toList ++ rest) h')
    (kx : ∀ (E : String) (h' : AH), Z' (.inr E) h' → VX X M F (k + (mR M').cells) (n + (mR M').slots) pc lv E h') : V X M F k n pc lv st h := by
  refine V.back (A := As) rfl ?_ ks kx
  intro p e s m args below meth c H locs ls hF hR hS hL
  obtain ⟨g1, g2, g3, g4, g5, g6, -⟩ := hF
  have hm : mcode M' = Cond.codeWith (my M') (mcc M') (mnL M') (mret M') (mtab M') := by unfold mcode; rw [hcv.2.1]; rfl
  have hin := gw_in hcv.1.2.2.1
  refine vx_runSX (hh := mtab M') (bytes := mcc M') (maxL := mnL M') (ret := mret M') (n := As.length) (Ts := GW) ⟨g1, g2, g3, g4, g5⟩ hC ⟨⟨rfl, rfl, hRm.1, hRm.2.1, pay_in g5 hin, by rw [← hm]; exact List.mem_cons_self⟩, by rw [← hm]; exact g5 _ hcv.1.2.2.1, g5 _ hcv.1.2.1, ⟨hcv.1.2.2.2.1, hcv.1.2.2.2.2.1⟩, fun sig hs => ?_, g5 _ hcv.1.1, g5 _ hcv.2.2⟩ ⟨kPc_blind, fun U hU hW => ⟨rfl, by rw [hU]; exact hR, g6.moved hW⟩⟩ rfl rfl hL.1 hstk (lv_room hst) hdg ⟨hRm.2.2.1, hRm.2.2.2⟩
  have h2 := hcv.1.2.2.2.2.2
  rw [hs] at h2
  exact (Option.some.inj h2).symm
/-! an exception over a frame -/
theorem VX_out {E : String} (ht : mtab M = []) (hc : k ≤ (mR M).cells ∧ n ≤ (mR M).slots) (hz : Z (.inr E) h) : VX X M (zF X M Z) k n pc lv E h := fun p e s m args below meth c H locs ls rest q ce hF hR hS hL hce hv hcl => by
  have htl := hF.2.2.2.2.2.2.2.2.2.1
  rw [ht] at htl
  refine vx_out (fun x hx => by rw [htl] at hx; cases hx) hF.2.2.2.2.2.2.2.1 hce hv hcl (fun t hth _ => ⟨⟨h, hz, by rw [hth]; exact hR⟩, va_S.F hS hth⟩) hS.2.2 hc.1 hc.2
theorem VX_catch {E name : String} (pre : List ExceptionTableEntry) (x : ExceptionTableEntry) (suf : List ExceptionTableEntry) (hsplit : tableOf (mtab M) = pre ++ x :: suf) (hpass : ∀ z ∈ pre, z.catchType ≠ 0 ∧ ∃ nm : String, Cond.classLink (my M).cls z.catchType nm ∈ GW ∧ ∀ U : State, kG X U → va_Nc E nm U) (hx : covers x pc = true) (h0 : x.catchType ≠ 0) (hlink : Cond.classLink (my M).cls x.catchType name ∈ GW) (hcast : Cond.castable E name ∈ GPW) (hp : GP X) (kk : ∀ q : Nat, V X M F k n x.handlerPc lv [.ref q] h) : VX X M F k n pc lv E h := fun p e s m args below meth c H locs ls rest q ce hF hR hS hL hce hv hcl =>
  vx_catch hF.2.2.2.1 pre x suf (hF.2.2.2.2.2.2.2.2.2.1.trans hsplit) (fun z hz => Or.inr ⟨(hpass z hz).1, by
    obtain ⟨nm, h1, h2⟩ := (hpass z hz).2
    exact ⟨nm, hF.2.2.2.2.1 _ h1, h2 s hF.kg⟩⟩) hx h0 (hF.2.2.2.2.1 _ hlink) (va_Nw.use rfl (hp _ hcast s hF.kg)) hce hv hcl (kk q p e s m args below meth c H locs ls hF hR hS hL)
theorem Rep.bump {H H1 : Heap} (hR : Rep X h H) (hz : H.size ≤ H1.size) (ho : ∀ q : Nat, q < H.size → H1[q]? = H[q]?) : Rep X (hbump H1.size h) H1 := by
  obtain ⟨h1, h2, h3, h4⟩ := hR
  have hz2 : h.1 ≤ H1.size := by rw [← h1]; exact hz
  refine ⟨rfl, ⟨Nat.le_trans h2.1 hz2, fun q hq => Nat.lt_of_lt_of_le (h2.2 q hq) hz2⟩, fun a e ha => ⟨(h3 a e ha).1, (h3 a e ha).2.kept (ho a (h3 a e ha).2.lt)⟩, fun q hq hn => ?_⟩
  have h9 := h4 q hq hn
  rw [Array.getElem?_eq_getElem hq] at h9
  rw [ho q (Array.getElem?_eq_some_iff.mp h9).1]
  exact h4 q hq hn
theorem V_throwS {E text : String} {names : List String} {ik is ic sa : Nat} (ht : mtab M = []) (hcls : Bundle.fit E = true) (hnames : ∀ n ∈ names, Bundle.fit n = true) (hk : Cond.classLink (my M).cls ik E ∈ GW) (hini : Cond.initialized E ∈ GW) (hat : ∀ w ∈ vx_atS (my M).cls ic E names, w ∈ GW ∨ w ∈ GPW) (hg : GZ X) (hp : GP X) (hstr : ∀ U : State, kG X U → vk_R (my M).cls is text sa U) (d0 : decode (mcc M) pc = .ok (.new ik, 3)) (d3 : decode (mcc M) (pc + 3) = .ok (.dup, 1)) (d4 : decode (mcc M) (pc + 4) = .ok (.ldc is, 2)) (d6 : decode (mcc M) (pc + 6) = .ok (.invokespecial ic, 3)) (d9 : decode (mcc M) (pc + 9) = .ok (.athrow, 1)) (hf : names.length + 3 < (mR M).frames) (hl : (rest.map fun v => v.category).sum + (13 * (names.length + 1) + 43) ≤ (mR M).locals) (hc : k + 1 ≤ (mR M).cells ∧ n + 6 ≤ (mR M).slots) (hz : ∀ q : Nat, h.1 ≤ q → Z (.inr E) (hbump q h)) : V X M (zF X M Z) k n pc lv rest h := fun p e s m args below meth c H locs ls hF hR hS hL => by
  have htl := hF.2.2.2.2.2.2.2.2.2.1
  rw [ht] at htl
  have hw : ∀ w ∈ Cond.classLink (my M).cls ik E :: Cond.initialized E :: vx_atS (my M).cls ic E names, w ∈ GW ∨ w ∈ GPW := fun w hw => by
    rcases List.mem_cons.mp hw with e1 | hw
    · rw [e1]; exact Or.inl hk
    · rcases List.mem_cons.mp hw with e1 | hw
      · rw [e1]; exact Or.inl hini
      · exact hat w hw
  refine vx_throwS hF.1 hF.2.1 hF.2.2.2.2.2.2.2.2.2.2.1 hF.2.2.2.1 hcls hnames (hF.2.2.2.2.1 _ hk) (hF.2.2.2.2.1 _ hini) (hstr s hF.kg) (fun w hw9 => by
    rcases hat w hw9 with h1 | h1
    · exact hF.2.2.2.2.1 _ h1
    · exact va_Nw.use (dcp_ot (List.mem_filter.mp h1).2) (hp w h1 s hF.kg)) (fun w hw9 => by
    unfold vx_ot
    rcases hw w hw9 with h1 | h1
    · rw [(List.mem_filter.mp h1).2, Bool.or_true]
    · rw [dcp_ot (List.mem_filter.mp h1).2, Bool.true_or]) ((hg s hF.kg).1.kept hF.old) ((hg s hF.kg).2.kept hF.old) hS (hL.1.trans hF.2.2.1.symm) d0 d3 d4 d6 d9 (fun x hx => by rw [htl] at hx; cases hx) hf hl hc.1 hc.2 hF.2.2.2.2.2.2.2.1 (fun t _ hsz ho => ?_) hS.2.2 hc.1 hc.2
  refine ⟨⟨hbump t.heap.size h, hz _ (by rw [← hR.1]; exact hsz), hR.bump hsz ho⟩, ?_⟩
  exact va_S.F (H := t.heap) ⟨Nat.le_trans hS.1 hsz, fun q h1 h2 => (ho q (Nat.lt_of_lt_of_le h1 hS.1)).trans (hS.2.1 q h1 h2), hS.2.2⟩ rfl
theorem V_throwSW {E text : String} {names : List String} {ik is ic sa : Nat} (ht : mtab M = []) (hcls : Bundle.fit E = true) (hnames : ∀ n ∈ names, Bundle.fit n = true) (hk : Cond.classLink (my M).cls ik E ∈ GW) (hini : Cond.initialized E ∈ GW) (hat : ∀ w ∈ vx_atS (my M).cls ic E names, w ∈ GW ∨ w ∈ GPW) (hg : GZ X) (hp : GP X) (hstr : ∀ U : State, kG X U → vk_R (my M).cls is text sa U) (d0 : decode (mcc M) pc = .ok (.new ik, 3)) (d3 : decode (mcc M) (pc + 3) = .ok (.dup, 1)) (d4 : decode (mcc M) (pc + 4) = .ok (.ldc_w is, 3)) (d6 : decode (mcc M) (pc + 7) = .ok (.invokespecial ic, 3)) (d9 : decode (mcc M) (pc + 10) = .ok (.athrow, 1)) (hf : names.length + 3 < (mR M).frames) (hl : (rest.map fun v => v.category).sum + (13 * (names.length + 1) + 43) ≤ (mR M).locals) (hc : k + 1 ≤ (mR M).cells ∧ n + 6 ≤ (mR M).slots) (hz : ∀ q : Nat, h.1 ≤ q → Z (.inr E) (hbump q h)) : V X M (zF X M Z) k n pc lv rest h := fun p e s m args below meth c H locs ls hF hR hS hL => by
  have htl := hF.2.2.2.2.2.2.2.2.2.1
  rw [ht] at htl
  have hw : ∀ w ∈ Cond.classLink (my M).cls ik E :: Cond.initialized E :: vx_atS (my M).cls ic E names, w ∈ GW ∨ w ∈ GPW := fun w hw => by
    rcases List.mem_cons.mp hw with e1 | hw
    · rw [e1]; exact Or.inl hk
    · rcases List.mem_cons.mp hw with e1 | hw
      · rw [e1]; exact Or.inl hini
      · exact hat w hw
  refine vx_throwSW hF.1 hF.2.1 hF.2.2.2.2.2.2.2.2.2.2.1 hF.2.2.2.1 hcls hnames (hF.2.2.2.2.1 _ hk) (hF.2.2.2.2.1 _ hini) (hstr s hF.kg) (fun w hw9 => by
    rcases hat w hw9 with h1 | h1
    · exact hF.2.2.2.2.1 _ h1
    · exact va_Nw.use (dcp_ot (List.mem_filter.mp h1).2) (hp w h1 s hF.kg)) (fun w hw9 => by
    unfold vx_ot
    rcases hw w hw9 with h1 | h1
    · rw [(List.mem_filter.mp h1).2, Bool.or_true]
    · rw [dcp_ot (List.mem_filter.mp h1).2, Bool.true_or]) ((hg s hF.kg).1.kept hF.old) ((hg s hF.kg).2.kept hF.old) hS (hL.1.trans hF.2.2.1.symm) d0 d3 d4 d6 d9 (fun x hx => by rw [htl] at hx; cases hx) hf hl hc.1 hc.2 hF.2.2.2.2.2.2.2.1 (fun t _ hsz ho => ?_) hS.2.2 hc.1 hc.2
  refine ⟨⟨hbump t.heap.size h, hz _ (by rw [← hR.1]; exact hsz), hR.bump hsz ho⟩, ?_⟩
  exact va_S.F (H := t.heap) ⟨Nat.le_trans hS.1 hsz, fun q h1 h2 => (ho q (Nat.lt_of_lt_of_le h1 hS.1)).trans (hS.2.1 q h1 h2), hS.2.2⟩ rfl
/-! calls with a packed contract of this kind -/
theorem V_cVt {M' : MI} {As : List Value} {b ci idx N : Nat} {fs : List Value} {T : u_T} {L : List String} {r : Int32 ⊕ Nat} {Q : AH → Prop} (hdg : decode (mcc M) pc = .ok (.invokevirtual idx, 3)) (hcv : CallV (my M).cls idx M' As.length) (hC : Ct X M' (.ref b :: As) h (zT L r Q)) (hb : h.2 b = some (.inr (ci, fs))) (hcl : vwCl[ci]? = some ((my M').cls, T, N)) (hRm : RoomOK M M' k n) (hst : (rest.map fun v => v.category).sum ≤ 8) {st : List Value} (hstk : st = As.reverse ++ .ref b :: rest) (ks : ∀ v h', r = .inl v → Q h' → V X M F (k + (mR M').cells) (n + (mR M').slots) (pc + 3) lv (.int v :: rest) h') (kx : ∀ j h', r = .inr j → Q h' → VX X M F (k + (mR M').cells) (n + (mR M').slots) pc lv (L.getD j "") h') : V X M F k n pc lv st h :=
  V_callV hdg hcv hC hb hcl hRm hst hstk (fun v h' hz => by
    obtain ⟨e, q⟩ := hz
    cases r with
    | inl x => cases e; exact ks x h' rfl q
    | inr j => cases e) (fun E h' hz => by
    obtain ⟨e, q⟩ := hz
    cases r with
    | inl x => cases e
    | inr j => cases e; exact kx j h' rfl q)
theorem V_cSHi {M' : MI} {As : List Value} {idx : Nat} {r : Int32} {Q : AH → Prop} (hdg : decode (mcc M) pc = .ok (.invokestatic idx, 3)) (hcv : CallH (my M).cls idx M' As.length) (hC : Ct X M' As h (zM (some (.int r)) Q)) (hRm : RoomOK M M' k n) (hst : (rest.map fun v => v.category).sum ≤ 8) {st : List Value} (hstk : st = As.reverse ++ rest) (kk : ∀ h', Q h' → V X M F (k + (mR M').cells) (n + (mR M').slots) (pc + 3) lv (.int r :: rest) h') : V X M F k n pc lv st h :=
  V_callSH hdg hcv hC hRm hst hstk (fun v h' hz => by obtain ⟨e, q⟩ := hz; cases e; exact kk h' q) (fun E h' hz => by cases hz.1)
end VX4
