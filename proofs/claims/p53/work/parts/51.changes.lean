/-! ===== one change ===== -/
section VX9
variable {X : KX} {M : MI} {F : FT} {k n pc : Nat} {lv lv' : List (Nat × Value)} {rest : List Value} {h : AH} {Z : ZT}
theorem V_ldcSW {tx : String} {idx q : Nat} (hdg : decode (mcc M) pc = .ok (.ldc_w idx, 3)) (hZ : ∀ U : State, kG X U → vk_R (my M).cls idx tx q U) (kk : V X M F k n (pc + 3) lv (.ref q :: rest) h) : V X M F k n pc lv rest h := fun p e s m args below meth c H locs ls hF hR hS hL T hT X0 => by
  obtain ⟨t, a1, b1⟩ := kk p e s m args below meth c H locs ls hF hR hS hL T hT X0
  exact ⟨t, X0.ldcStringW hF.1 hF.2.2.2.1 (text := tx) (a := q) (hZ s hF.kg).1 (hZ s hF.kg).2 (g := F0 m pc ls rest) rfl (by rw [hF.2.1]; exact hdg) t a1, b1⟩
end VX9
def tAd (c : Nat) : List Int32 := gT.getD 32 [] ++ dec c
def tLi (p : Nat) : List Int32 := gT.getD 33 [] ++ dec p ++ gT.getD 34 []
theorem rAll_c (t : List Int32) (c : Int32) : rAll t 16 [] 0 c = rAll t 16 [] 0 0 ∨ ((rAll t 16 [] 0 0).1 = false ∧ rAll t 16 [] 0 c = (false, c, (rAll t 16 [] 0 0).2.2)) := by
  have u : ∀ c, rAll t (15 + 1) [] 0 c = (if (rCmd t 0 11 0 0).1.isSome then (if t.length ≤ (rCmd t 0 11 0 0).2.1 then (true, nI (([] : List (Nat × List Nat)).length + 1), (rCmd t 0 11 0 0).2.1, [] ++ [((rCmd t 0 11 0 0).1.getD 0, (rCmd t 0 11 0 0).2.2)]) else if sgB t (rCmd t 0 11 0 0).2.1 59 then rAll t 15 ([] ++ [((rCmd t 0 11 0 0).1.getD 0, (rCmd t 0 11 0 0).2.2)]) ((rCmd t 0 11 0 0).2.1 + 1) (nI (([] : List (Nat × List Nat)).length + 1)) else (false, nI (([] : List (Nat × List Nat)).length + 1), (rCmd t 0 11 0 0).2.1, [] ++ [((rCmd t 0 11 0 0).1.getD 0, (rCmd t 0 11 0 0).2.2)])) else (false, c, (rCmd t 0 11 0 0).2.1, [])) := fun c => by rw [rAll]
  show rAll t (15 + 1) [] 0 c = rAll t (15 + 1) [] 0 0 ∨ ((rAll t (15 + 1) [] 0 0).1 = false ∧ rAll t (15 + 1) [] 0 c = (false, c, (rAll t (15 + 1) [] 0 0).2.2))
  by_cases h : (rCmd t 0 11 0 0).1.isSome = true
  · left
    rw [u c, u 0, if_pos h, if_pos h]
  · right
    rw [u c, u 0, if_neg h, if_neg h]
    exact ⟨rfl, rfl⟩
def dqQ : DecidableEq (Bool × Int32 × Nat × List (Nat × List Nat)) := inferInstance
theorem byDec {p : Prop} (i : Decidable p) (hp : @decide p i = true) : p := of_decide_eq_true hp
set_option maxRecDepth 100000 in
theorem r_tAd : ∀ c, c < 18 → rAll (tAd c) 16 [] 0 0 = (true, 2, (tAd c).length, [(9, [1]), (6, [c])]) := byDec (@Nat.decidableBallLT 18 _ (fun c _ => dqQ _ _)) (by decide +kernel)
set_option maxRecDepth 100000 in
theorem r_tLi : ∀ p, p < 8 → rAll (tLi p) 16 [] 0 0 = (true, 2, (tLi p).length, [(8, [3]), (2, [p, 2])]) := byDec (@Nat.decidableBallLT 8 _ (fun c _ => dqQ _ _)) (by decide +kernel)
theorem l_tAd : ∀ c, c < 18 → 16 < (tAd c).length ∧ (tAd c).length < 30 ∧ ∀ j, j < (tAd c).length → 32 ≤ ((tAd c).getD j 0).toNatClampNeg ∧ ((tAd c).getD j 0).toNatClampNeg ≤ 126 ∧ (tAd c).getD j 0 = nI ((tAd c).getD j 0).toNatClampNeg := by decide +kernel
theorem l_tLi : ∀ c, c < 8 → 16 < (tLi c).length ∧ (tLi c).length < 30 ∧ ∀ j, j < (tLi c).length → 32 ≤ ((tLi c).getD j 0).toNatClampNeg ∧ ((tLi c).getD j 0).toNatClampNeg ≤ 126 ∧ (tLi c).getD j 0 = nI ((tLi c).getD j 0).toNatClampNeg := by decide +kernel
theorem lts_tAd {c : Nat} (hc : c < 18) : Lts (tAd c) := ⟨by have := (l_tAd c hc).2.1; omega, fun j hj => ⟨_, ((l_tAd c hc).2.2 j hj).1, ((l_tAd c hc).2.2 j hj).2.1, ((l_tAd c hc).2.2 j hj).2.2⟩⟩
theorem lts_tLi {c : Nat} (hc : c < 8) : Lts (tLi c) := ⟨by have := (l_tLi c hc).2.1; omega, fun j hj => ⟨_, ((l_tLi c hc).2.2 j hj).1, ((l_tLi c hc).2.2 j hj).2.1, ((l_tLi c hc).2.2 j hj).2.2⟩⟩
/-- a text that is read: its commands are carried out -/
theorem run_read {X : KX} {x : Nat} {S : SH} {past : List SH} {N : SH} {hs le lc lf : Int32} {t ln : List Int32} {o : Out} {h' : AH} {cnt : Int32} {pos : Nat} {l : List (Nat × List Nat)} (hr : rAll t 16 [] 0 0 = (true, cnt, pos, l)) (hz : zLRun X x S past N hs le lc lf t ln o h') : ∃ cm, RdC cm l ∧ (((U_all cm cnt 16 0 S).2 = none ∧ o = .inl (some (.int cnt)) ∧ OpW X h' x (U_all cm cnt 16 0 S).1 ((S :: past).take 8) N hs le lc lf [] ln) ∨ ∃ q, (U_all cm cnt 16 0 S).2 = some q ∧ o = .inl (some (.int (-1002))) ∧ OpW X h' x S past N hs le (nI q.1) (-q.2) [] ln) := by
  obtain ⟨c0, cm, hC, hd⟩ := hz
  have e : rAll t 16 [] 0 c0 = (true, cnt, pos, l) := by
    rcases rAll_c t c0 with g | ⟨g, -⟩
    · exact g.trans hr
    · rw [hr] at g; cases g
  rw [e] at hC hd
  rcases hd with ⟨e1, -⟩ | ⟨-, g⟩
  · cases e1
  · exact ⟨cm, hC, g⟩
theorem run_not {X : KX} {x : Nat} {S : SH} {past : List SH} {N : SH} {hs le lc lf : Int32} {t ln : List Int32} {o : Out} {h' : AH} {cnt : Int32} {pos : Nat} {l : List (Nat × List Nat)} (hr : rAll t 16 [] 0 0 = (false, cnt, pos, l)) (hz : zLRun X x S past N hs le lc lf t ln o h') : o = .inl (some (.int (-1001))) ∧ OpW X h' x S past N hs (nI pos) lc lf [] ln := by
  obtain ⟨c0, cm, hC, hd⟩ := hz
  have e : (rAll t 16 [] 0 c0).1 = false ∧ (rAll t 16 [] 0 c0).2.2 = (pos, l) := by
    rcases rAll_c t c0 with g | ⟨-, g⟩
    · rw [g, hr]; exact ⟨rfl, rfl⟩
    · rw [g, hr]; exact ⟨rfl, rfl⟩
  rcases hd with ⟨-, e2, q⟩ | ⟨e1, -⟩
  · rw [e.2] at q
    exact ⟨e2, q⟩
  · rw [e.1] at e1; cases e1
theorem rd_cm {cm : Nat → Nat × List Int32 × Int32} {l : List (Nat × List Nat)} (hC : RdC cm l) {i : Nat} {f : Nat} {a : List Nat} (hi : l[i]? = some (f, a)) : (cm i).1 = f ∧ ∀ j, j < a.length → rd (cm i).2.1 (nI j) = nI (a.getD j 0) := by
  obtain ⟨⟨h1, -, h3, h4⟩, -⟩ := hC.2 i (f, a) hi
  refine ⟨h1, fun j hj => ?_⟩
  unfold rd
  have h3 : a.length ≤ 3 := h3
  rw [nI_clamp (by omega)]
  exact h4 j hj
theorem all_keep {cm : Nat → Nat × List Int32 × Int32} {m : Nat} (hm : m < 100) (Q : Nat → SH → Prop) (hQ : ∀ i S, i < m → Q i S → 0 ≤ (U_cmd (cm i).1 (rd (cm i).2.1 0) (rd (cm i).2.1 1) (rd (cm i).2.1 2) S).1 → Q (i + 1) (U_cmd (cm i).1 (rd (cm i).2.1 0) (rd (cm i).2.1 1) (rd (cm i).2.1 2) S).2) : ∀ (g i : Nat) (S : SH), i ≤ m → m ≤ i + g → Q i S → (U_all cm (nI m) g i S).2 = none → Q m (U_all cm (nI m) g i S).1 := by
  intro g
  induction g with
  | zero =>
    intro i S h1 h2 h3 _
    obtain rfl : i = m := by omega
    exact h3
  | succ g ih =>
    intro i S h1 h2 h3 h4
    rw [U_all] at h4 ⊢
    by_cases c : nI m ≤ nI i
    · rw [if_pos c]
      have : m ≤ i := by
        rcases Nat.lt_or_ge i m with g | g
        · exact absurd c (nI_ge g (by omega))
        · exact g
      obtain rfl : i = m := by omega
      exact h3
    · rw [if_neg c] at h4 ⊢
      have him : i < m := by
        rcases Nat.lt_or_ge i m with g | g
        · exact g
        · exact absurd (nI_le g (by omega)) c
      by_cases c2 : 0 ≤ (U_cmd (cm i).1 (rd (cm i).2.1 0) (rd (cm i).2.1 1) (rd (cm i).2.1 2) S).1
      · rw [if_pos c2] at h4 ⊢
        exact ih (i + 1) _ (by omega) (by omega) (hQ i S him h3 c2) h4
      · rw [if_neg c2] at h4
        cases h4
theorem OkR_keep {m : Nat} {P : SH → Prop} {S : SH} {r : Int32 × SH} (h : OkR m P S r) (h0 : 0 ≤ r.1) : P r.2 := by
  rcases h with ⟨-, h⟩ | ⟨(e | ⟨-, e⟩ | ⟨-, e⟩), -⟩
  · exact h
  · rw [e] at h0; exact absurd h0 (by decide)
  · rw [e] at h0; exact absurd h0 (by decide)
  · rw [e] at h0; exact absurd h0 (by decide)
/-- a change's answer v, and what it leaves -/
def Chg (P : SH → Prop) (S : SH) (past : List SH) (v : Int32) (S' : SH) (past' : List SH) : Prop := (¬ v < 0 ∧ past' = (S :: past).take 8 ∧ P S') ∨ (v < 0 ∧ S' = S ∧ past' = past)
theorem Chg_mono {P Q : SH → Prop} {S S' : SH} {past past' : List SH} {v : Int32} (h : Chg P S past v S' past') (hPQ : ∀ S, P S → Q S) : Chg Q S past v S' past' := h.imp (fun h => ⟨h.1, h.2.1, hPQ _ h.2.2⟩) id
section
variable {P : SH → Prop} {S : SH} {past : List SH} {r : Int32 × SH}
theorem chg1 (h : OkR 1 P S r) {c1 : Int32} (h1 : c1 < 0) : Chg P S past (wI [c1] (if r.1 = (-1) then ((Sum.inr 0 : Int32 ⊕ Nat), r.2, past) else (.inl r.1, r.2, (S :: past).take 8)).1) (if r.1 = (-1) then ((Sum.inr 0 : Int32 ⊕ Nat), r.2, past) else (.inl r.1, r.2, (S :: past).take 8)).2.1 (if r.1 = (-1) then ((Sum.inr 0 : Int32 ⊕ Nat), r.2, past) else (.inl r.1, r.2, (S :: past).take 8)).2.2 := by
  rcases h with ⟨h0, hp⟩ | ⟨(e | ⟨g, -⟩ | ⟨g, -⟩), e2⟩
  · rw [if_neg (fun e => h0 (by rw [e]; decide))]
    exact Or.inl ⟨h0, rfl, hp⟩
  · rw [if_pos e]
    exact Or.inr ⟨h1, e2, rfl⟩
  · omega
  · omega
theorem chg2 (h : OkR 2 P S r) {c1 c2 : Int32} (h1 : c1 < 0) (h2 : c2 < 0) : Chg P S past (wI [c1, c2] (if r.1 = (-1) then ((Sum.inr 0 : Int32 ⊕ Nat), r.2, past) else (if r.1 = (-2) then (.inr 1, r.2, past) else (.inl r.1, r.2, (S :: past).take 8))).1) (if r.1 = (-1) then ((Sum.inr 0 : Int32 ⊕ Nat), r.2, past) else (if r.1 = (-2) then (.inr 1, r.2, past) else (.inl r.1, r.2, (S :: past).take 8))).2.1 (if r.1 = (-1) then ((Sum.inr 0 : Int32 ⊕ Nat), r.2, past) else (if r.1 = (-2) then (.inr 1, r.2, past) else (.inl r.1, r.2, (S :: past).take 8))).2.2 := by
  rcases h with ⟨h0, hp⟩ | ⟨(e | ⟨g, e⟩ | ⟨g, -⟩), e2⟩
  · rw [if_neg (fun e => h0 (by rw [e]; decide)), if_neg (fun e => h0 (by rw [e]; decide))]
    exact Or.inl ⟨h0, rfl, hp⟩
  · rw [if_pos e]
    exact Or.inr ⟨h1, e2, rfl⟩
  · rw [if_neg (by rw [e]; decide), if_pos e]
    exact Or.inr ⟨h2, e2, rfl⟩
  · omega
theorem chg3 (h : OkR 3 P S r) {c1 c2 c3 : Int32} (h1 : c1 < 0) (h2 : c2 < 0) (h3 : c3 < 0) : Chg P S past (wI [c1, c2, c3] (if r.1 = (-1) then ((Sum.inr 0 : Int32 ⊕ Nat), r.2, past) else (if r.1 = (-2) then (.inr 1, r.2, past) else (if r.1 = (-3) then (.inr 2, r.2, past) else (.inl r.1, r.2, (S :: past).take 8)))).1) (if r.1 = (-1) then ((Sum.inr 0 : Int32 ⊕ Nat), r.2, past) else (if r.1 = (-2) then (.inr 1, r.2, past) else (if r.1 = (-3) then (.inr 2, r.2, past) else (.inl r.1, r.2, (S :: past).take 8)))).2.1 (if r.1 = (-1) then ((Sum.inr 0 : Int32 ⊕ Nat), r.2, past) else (if r.1 = (-2) then (.inr 1, r.2, past) else (if r.1 = (-3) then (.inr 2, r.2, past) else (.inl r.1, r.2, (S :: past).take 8)))).2.2 := by
  rcases h with ⟨h0, hp⟩ | ⟨(e | ⟨g, e⟩ | ⟨g, e⟩), e2⟩
  · rw [if_neg (fun e => h0 (by rw [e]; decide)), if_neg (fun e => h0 (by rw [e]; decide)), if_neg (fun e => h0 (by rw [e]; decide))]
    exact Or.inl ⟨h0, rfl, hp⟩
  · rw [if_pos e]
    exact Or.inr ⟨h1, e2, rfl⟩
  · rw [if_neg (by rw [e]; decide), if_pos e]
    exact Or.inr ⟨h2, e2, rfl⟩
  · rw [if_neg (by rw [e]; decide), if_neg (by rw [e]; decide), if_pos e]
    exact Or.inr ⟨h3, e2, rfl⟩
end
theorem mouth_eq (S : SH) (past : List SH) (p b z : Int32) : T_X7_cueMouth S past p b z = T_X7_addPlayed S past 109 p b z := by
  unfold T_X7_cueMouth
  rcases T_X7_addPlayed S past 109 p b z with ⟨v | j, s, q⟩ <;> rfl
theorem prop_eq (S : SH) (past : List SH) (p b z : Int32) : T_X7_cueProp S past p b z = T_X7_addPlayed S past 112 p b z := by
  unfold T_X7_cueProp
  rcases T_X7_addPlayed S past 112 p b z with ⟨v | j, s, q⟩ <;> rfl
theorem OkR_imp {m : Nat} {P Q : SH → Prop} {S : SH} {r : Int32 × SH} (h : OkR m P S r) (hPQ : ∀ S, P S → Q S) : OkR m Q S r := h.imp (fun h => ⟨h.1, hPQ _ h.2⟩) id
set_option maxRecDepth 20000 in
set_option maxHeartbeats 2000000 in
theorem ch_152 {X : KX} (hxs : X.1.stackTraces = false) (hg : GX X) (hg2 : GP2 X) {h : AH} {x : Nat} {S : SH} {past : List SH} {N : SH} {hs le lc lf : Int32} {ln : List Int32} (hW : OpW X h x S past N hs le lc lf [] ln) {B K T : Nat} (hI : Inv B K T S) (hK : K < 900) (hT : T < 900) (hB : B < 2 ^ 20) {xx p2 b3 z4 : Int32} {c5 k9 n9 : Nat} (hk : k9 ≤ 8) (hn : n9 ≤ 64) : V X mL_changes (zF X mL_changes (zO X x (fun o S' past' N' hs' le' lc' lf' txt' ln' => N' = N ∧ hs' = hs ∧ txt' = [] ∧ ((o = .inl (some (.int 1)) ∧ past' = (S :: past).take 8 ∧ Inv (B + 720) (K + 1) (T + 5) S') ∨ (o = .inl (some (.int 0)) ∧ S' = S ∧ past' = past))))) k9 n9 152 [(0, .ref x), (1, .int xx), (2, .int p2), (3, .int b3), (4, .int z4), (5, .int (nI c5))] [] h := by
  refine V_aload_n dL_changes_152 0 rfl ?_
  have hc : Chg (Inv (B + 720) (K + 1) (T + 5)) S past (wI ([-1001] : List Int32) (T_X7_addPerformer S past).1) (T_X7_addPerformer S past).2.1 (T_X7_addPerformer S past).2.2 := by unfold T_X7_addPerformer; exact chg1 (P := (Inv (B + 720) (K + 1) (T + 5))) (OkR_imp (ok_join hI) (fun S hS => Inv_mono hS (by omega) (by omega) (by omega))) (by decide)
  refine V_cSHi (As := [.ref x]) (rest := []) dL_changes_153 cvL_167 (c_L_addPerformer hxs hg hW) ⟨Nat.le_of_ble_eq_true rfl, Nat.le_of_ble_eq_true rfl, by show k9 + 1 ≤ 128; omega, by show n9 + 6 ≤ 16384; omega⟩ (Nat.le_of_ble_eq_true rfl) rfl (fun h2 q2 => ?_)
  rcases hc with ⟨c0, c1, c2⟩ | ⟨c0, c1, c2⟩
  · refine V_if_lt (tgt := 163) dL_changes_156 (by decide) (fun c9 => absurd c9 c0) (fun _ => ?_)
    refine V_iconst (v := 1) dL_changes_159 (by decide) ?_
    refine V_goto (tgt := 164) dL_changes_160 (by decide) ?_
    exact V_zret dL_changes_164 rfl bN1 ⟨by show k9 + 1 ≤ 128; omega, by show n9 + 6 ≤ 16384; omega⟩ ⟨_, _, _, _, _, _, _, _, _, ⟨rfl, rfl, rfl, Or.inl ⟨rfl, c1, c2⟩⟩, q2⟩
  · refine V_if_lt (tgt := 163) dL_changes_156 (by decide) (fun _ => ?_) (fun c9 => absurd c0 c9)
    refine V_iconst (v := 0) dL_changes_163 (by decide) ?_
    exact V_zret dL_changes_164 rfl bN0 ⟨by show k9 + 1 ≤ 128; omega, by show n9 + 6 ≤ 16384; omega⟩ ⟨_, _, _, _, _, _, _, _, _, ⟨rfl, rfl, rfl, Or.inr ⟨rfl, c1, c2⟩⟩, q2⟩
set_option maxRecDepth 20000 in
set_option maxHeartbeats 2000000 in
theorem ch_165 {X : KX} (hxs : X.1.stackTraces = false) (hg : GX X) (hg2 : GP2 X) {h : AH} {x : Nat} {S : SH} {past : List SH} {N : SH} {hs le lc lf : Int32} {ln : List Int32} (hW : OpW X h x S past N hs le lc lf [] ln) {B K T : Nat} (hI : Inv B K T S) (hK : K < 900) (hT : T < 900) (hB : B < 2 ^ 20) {xx p2 b3 z4 : Int32} {c5 k9 n9 : Nat} (hk : k9 ≤ 8) (hn : n9 ≤ 64) : V X mL_changes (zF X mL_changes (zO X x (fun o S' past' N' hs' le' lc' lf' txt' ln' => N' = N ∧ hs' = hs ∧ txt' = [] ∧ ((o = .inl (some (.int 1)) ∧ past' = (S :: past).take 8 ∧ Inv (B + 720) (K + 1) (T + 5) S') ∨ (o = .inl (some (.int 0)) ∧ S' = S ∧ past' = past))))) k9 n9 165 [(0, .ref x), (1, .int xx), (2, .int p2), (3, .int b3), (4, .int z4), (5, .int (nI c5))] [] h := by
  refine V_aload_n dL_changes_165 0 rfl ?_
  refine V_iload_n dL_changes_166 2 rfl ?_
  refine V_iload_n dL_changes_167 1 rfl ?_
  refine V_bipush (v := 7) dL_changes_168 (by decide) ?_
  refine V_ishr dL_changes_170 ?_
  refine V_bipush (v := 9) dL_changes_171 (by decide) ?_
  refine V_cSg (As := [.int (xx >>> (7 &&& 31)), .int 9]) (rest := [.int p2, .ref x]) dL_changes_173 cvL_164 (c_L_some hxs (xx >>> (7 &&& 31)) 9 (by decide)) ⟨Nat.le_of_ble_eq_true rfl, Nat.le_of_ble_eq_true rfl, by show k9 + 0 ≤ 128; omega, by show n9 + 0 ≤ 16384; omega⟩ (Nat.le_of_ble_eq_true rfl) rfl (fun h1 e1 => ?_)
  subst e1
  generalize smI (xx >>> (7 &&& 31)) 9 = a9
  have hc : Chg (Inv (B + 720) (K + 1) (T + 5)) S past (wI ([-1001, -1002, -1003] : List Int32) (T_X7_payFine S past p2 a9).1) (T_X7_payFine S past p2 a9).2.1 (T_X7_payFine S past p2 a9).2.2 := by unfold T_X7_payFine; exact chg3 (P := (Inv (B + 720) (K + 1) (T + 5))) (OkR_imp (ok_pay p2 a9 hI (by omega)) (fun S hS => Inv_mono hS (by omega) (by omega) (by omega))) (by decide) (by decide) (by decide)
  refine V_cSHi (As := [.ref x, .int p2, .int a9]) (rest := []) dL_changes_176 cvL_245 (c_L_pay hxs hg hW p2 a9) ⟨Nat.le_of_ble_eq_true rfl, Nat.le_of_ble_eq_true rfl, by show k9 + 0 + 1 ≤ 128; omega, by show n9 + 0 + 6 ≤ 16384; omega⟩ (Nat.le_of_ble_eq_true rfl) rfl (fun h2 q2 => ?_)
  rcases hc with ⟨c0, c1, c2⟩ | ⟨c0, c1, c2⟩
  · refine V_if_lt (tgt := 186) dL_changes_179 (by decide) (fun c9 => absurd c9 c0) (fun _ => ?_)
    refine V_iconst (v := 1) dL_changes_182 (by decide) ?_
    refine V_goto (tgt := 187) dL_changes_183 (by decide) ?_
    exact V_zret dL_changes_187 rfl bN1 ⟨by show k9 + 0 + 1 ≤ 128; omega, by show n9 + 0 + 6 ≤ 16384; omega⟩ ⟨_, _, _, _, _, _, _, _, _, ⟨rfl, rfl, rfl, Or.inl ⟨rfl, c1, c2⟩⟩, q2⟩
  · refine V_if_lt (tgt := 186) dL_changes_179 (by decide) (fun _ => ?_) (fun c9 => absurd c0 c9)
    refine V_iconst (v := 0) dL_changes_186 (by decide) ?_
    exact V_zret dL_changes_187 rfl bN0 ⟨by show k9 + 0 + 1 ≤ 128; omega, by show n9 + 0 + 6 ≤ 16384; omega⟩ ⟨_, _, _, _, _, _, _, _, _, ⟨rfl, rfl, rfl, Or.inr ⟨rfl, c1, c2⟩⟩, q2⟩
set_option maxRecDepth 20000 in
set_option maxHeartbeats 2000000 in
theorem ch_188 {X : KX} (hxs : X.1.stackTraces = false) (hg : GX X) (hg2 : GP2 X) {h : AH} {x : Nat} {S : SH} {past : List SH} {N : SH} {hs le lc lf : Int32} {ln : List Int32} (hW : OpW X h x S past N hs le lc lf [] ln) {B K T : Nat} (hI : Inv B K T S) (hK : K < 900) (hT : T < 900) (hB : B < 2 ^ 20) {xx p2 b3 z4 : Int32} {c5 k9 n9 : Nat} (hk : k9 ≤ 8) (hn : n9 ≤ 64) : V X mL_changes (zF X mL_changes (zO X x (fun o S' past' N' hs' le' lc' lf' txt' ln' => N' = N ∧ hs' = hs ∧ txt' = [] ∧ ((o = .inl (some (.int 1)) ∧ past' = (S :: past).take 8 ∧ Inv (B + 720) (K + 1) (T + 5) S') ∨ (o = .inl (some (.int 0)) ∧ S' = S ∧ past' = past))))) k9 n9 188 [(0, .ref x), (1, .int xx), (2, .int p2), (3, .int b3), (4, .int z4), (5, .int (nI c5))] [] h := by
  refine V_aload_n dL_changes_188 0 rfl ?_
  refine V_iload_n dL_changes_189 2 rfl ?_
  refine V_iload_n dL_changes_190 1 rfl ?_
  refine V_bipush (v := 7) dL_changes_191 (by decide) ?_
  refine V_ishr dL_changes_193 ?_
  refine V_iconst (v := 5) dL_changes_194 (by decide) ?_
  refine V_cSg (As := [.int (xx >>> (7 &&& 31)), .int 5]) (rest := [.int p2, .ref x]) dL_changes_195 cvL_164 (c_L_some hxs (xx >>> (7 &&& 31)) 5 (by decide)) ⟨Nat.le_of_ble_eq_true rfl, Nat.le_of_ble_eq_true rfl, by show k9 + 0 ≤ 128; omega, by show n9 + 0 ≤ 16384; omega⟩ (Nat.le_of_ble_eq_true rfl) rfl (fun h1 e1 => ?_)
  subst e1
  generalize smI (xx >>> (7 &&& 31)) 5 = a9
  have hc : Chg (Inv (B + 720) (K + 1) (T + 5)) S past (wI ([-1001, -1002] : List Int32) (T_X7_whisper S past p2 a9).1) (T_X7_whisper S past p2 a9).2.1 (T_X7_whisper S past p2 a9).2.2 := by unfold T_X7_whisper; exact chg2 (P := (Inv (B + 720) (K + 1) (T + 5))) (OkR_imp (ok_hiss p2 a9 hI) (fun S hS => Inv_mono hS (by omega) (by omega) (by omega))) (by decide) (by decide)
  refine V_cSHi (As := [.ref x, .int p2, .int a9]) (rest := []) dL_changes_198 cvL_248 (c_L_whisper hxs hg hW p2 a9) ⟨Nat.le_of_ble_eq_true rfl, Nat.le_of_ble_eq_true rfl, by show k9 + 0 + 1 ≤ 128; omega, by show n9 + 0 + 6 ≤ 16384; omega⟩ (Nat.le_of_ble_eq_true rfl) rfl (fun h2 q2 => ?_)
  rcases hc with ⟨c0, c1, c2⟩ | ⟨c0, c1, c2⟩
  · refine V_if_lt (tgt := 208) dL_changes_201 (by decide) (fun c9 => absurd c9 c0) (fun _ => ?_)
    refine V_iconst (v := 1) dL_changes_204 (by decide) ?_
    refine V_goto (tgt := 209) dL_changes_205 (by decide) ?_
    exact V_zret dL_changes_209 rfl bN1 ⟨by show k9 + 0 + 1 ≤ 128; omega, by show n9 + 0 + 6 ≤ 16384; omega⟩ ⟨_, _, _, _, _, _, _, _, _, ⟨rfl, rfl, rfl, Or.inl ⟨rfl, c1, c2⟩⟩, q2⟩
  · refine V_if_lt (tgt := 208) dL_changes_201 (by decide) (fun _ => ?_) (fun c9 => absurd c0 c9)
    refine V_iconst (v := 0) dL_changes_208 (by decide) ?_
    exact V_zret dL_changes_209 rfl bN0 ⟨by show k9 + 0 + 1 ≤ 128; omega, by show n9 + 0 + 6 ≤ 16384; omega⟩ ⟨_, _, _, _, _, _, _, _, _, ⟨rfl, rfl, rfl, Or.inr ⟨rfl, c1, c2⟩⟩, q2⟩
set_option maxRecDepth 20000 in
set_option maxHeartbeats 2000000 in
theorem ch_210 {X : KX} (hxs : X.1.stackTraces = false) (hg : GX X) (hg2 : GP2 X) {h : AH} {x : Nat} {S : SH} {past : List SH} {N : SH} {hs le lc lf : Int32} {ln : List Int32} (hW : OpW X h x S past N hs le lc lf [] ln) {B K T : Nat} (hI : Inv B K T S) (hK : K < 900) (hT : T < 900) (hB : B < 2 ^ 20) {xx p2 b3 z4 : Int32} {c5 k9 n9 : Nat} (hk : k9 ≤ 8) (hn : n9 ≤ 64) : V X mL_changes (zF X mL_changes (zO X x (fun o S' past' N' hs' le' lc' lf' txt' ln' => N' = N ∧ hs' = hs ∧ txt' = [] ∧ ((o = .inl (some (.int 1)) ∧ past' = (S :: past).take 8 ∧ Inv (B + 720) (K + 1) (T + 5) S') ∨ (o = .inl (some (.int 0)) ∧ S' = S ∧ past' = past))))) k9 n9 210 [(0, .ref x), (1, .int xx), (2, .int p2), (3, .int b3), (4, .int z4), (5, .int (nI c5))] [] h := by
  refine V_aload_n dL_changes_210 0 rfl ?_
  refine V_iload_n dL_changes_211 2 rfl ?_
  refine V_iload_n dL_changes_212 3 rfl ?_
  refine V_iload dL_changes_213 4 rfl ?_
  have hc : Chg (Inv (B + 720) (K + 1) (T + 5)) S past (wI ([-1001, -1002, -1003] : List Int32) (T_X7_cueMouth S past p2 b3 z4).1) (T_X7_cueMouth S past p2 b3 z4).2.1 (T_X7_cueMouth S past p2 b3 z4).2.2 := by rw [mouth_eq]; unfold T_X7_addPlayed; exact chg3 (P := (Inv (B + 720) (K + 1) (T + 5))) (OkR_imp (ok_putPlayed 109 p2 b3 z4 (Or.inl rfl) hI (by omega) (by omega)) (fun S hS => Inv_mono hS (by omega) (by omega) (by omega))) (by decide) (by decide) (by decide)
  refine V_cSHi (As := [.ref x, .int p2, .int b3, .int z4]) (rest := []) dL_changes_215 cvL_171 (c_L_cueMouth hxs hg hW p2 b3 z4) ⟨Nat.le_of_ble_eq_true rfl, Nat.le_of_ble_eq_true rfl, by show k9 + 1 ≤ 128; omega, by show n9 + 6 ≤ 16384; omega⟩ (Nat.le_of_ble_eq_true rfl) rfl (fun h2 q2 => ?_)
  rcases hc with ⟨c0, c1, c2⟩ | ⟨c0, c1, c2⟩
  · refine V_if_lt (tgt := 225) dL_changes_218 (by decide) (fun c9 => absurd c9 c0) (fun _ => ?_)
    refine V_iconst (v := 1) dL_changes_221 (by decide) ?_
    refine V_goto (tgt := 226) dL_changes_222 (by decide) ?_
    exact V_zret dL_changes_226 rfl bN1 ⟨by show k9 + 1 ≤ 128; omega, by show n9 + 6 ≤ 16384; omega⟩ ⟨_, _, _, _, _, _, _, _, _, ⟨rfl, rfl, rfl, Or.inl ⟨rfl, c1, c2⟩⟩, q2⟩
  · refine V_if_lt (tgt := 225) dL_changes_218 (by decide) (fun _ => ?_) (fun c9 => absurd c0 c9)
    refine V_iconst (v := 0) dL_changes_225 (by decide) ?_
    exact V_zret dL_changes_226 rfl bN0 ⟨by show k9 + 1 ≤ 128; omega, by show n9 + 6 ≤ 16384; omega⟩ ⟨_, _, _, _, _, _, _, _, _, ⟨rfl, rfl, rfl, Or.inr ⟨rfl, c1, c2⟩⟩, q2⟩
set_option maxRecDepth 20000 in
set_option maxHeartbeats 2000000 in
theorem ch_227 {X : KX} (hxs : X.1.stackTraces = false) (hg : GX X) (hg2 : GP2 X) {h : AH} {x : Nat} {S : SH} {past : List SH} {N : SH} {hs le lc lf : Int32} {ln : List Int32} (hW : OpW X h x S past N hs le lc lf [] ln) {B K T : Nat} (hI : Inv B K T S) (hK : K < 900) (hT : T < 900) (hB : B < 2 ^ 20) {xx p2 b3 z4 : Int32} {c5 k9 n9 : Nat} (hk : k9 ≤ 8) (hn : n9 ≤ 64) : V X mL_changes (zF X mL_changes (zO X x (fun o S' past' N' hs' le' lc' lf' txt' ln' => N' = N ∧ hs' = hs ∧ txt' = [] ∧ ((o = .inl (some (.int 1)) ∧ past' = (S :: past).take 8 ∧ Inv (B + 720) (K + 1) (T + 5) S') ∨ (o = .inl (some (.int 0)) ∧ S' = S ∧ past' = past))))) k9 n9 227 [(0, .ref x), (1, .int xx), (2, .int p2), (3, .int b3), (4, .int z4), (5, .int (nI c5))] [] h := by
  refine V_aload_n dL_changes_227 0 rfl ?_
  refine V_iload_n dL_changes_228 2 rfl ?_
  refine V_iload_n dL_changes_229 3 rfl ?_
  refine V_iload dL_changes_230 4 rfl ?_
  have hc : Chg (Inv (B + 720) (K + 1) (T + 5)) S past (wI ([-1001, -1002, -1003] : List Int32) (T_X7_cueProp S past p2 b3 z4).1) (T_X7_cueProp S past p2 b3 z4).2.1 (T_X7_cueProp S past p2 b3 z4).2.2 := by rw [prop_eq]; unfold T_X7_addPlayed; exact chg3 (P := (Inv (B + 720) (K + 1) (T + 5))) (OkR_imp (ok_putPlayed 112 p2 b3 z4 (Or.inr rfl) hI (by omega) (by omega)) (fun S hS => Inv_mono hS (by omega) (by omega) (by omega))) (by decide) (by decide) (by decide)
  refine V_cSHi (As := [.ref x, .int p2, .int b3, .int z4]) (rest := []) dL_changes_232 cvL_174 (c_L_cueProp hxs hg hW p2 b3 z4) ⟨Nat.le_of_ble_eq_true rfl, Nat.le_of_ble_eq_true rfl, by show k9 + 1 ≤ 128; omega, by show n9 + 6 ≤ 16384; omega⟩ (Nat.le_of_ble_eq_true rfl) rfl (fun h2 q2 => ?_)
  rcases hc with ⟨c0, c1, c2⟩ | ⟨c0, c1, c2⟩
  · refine V_if_lt (tgt := 242) dL_changes_235 (by decide) (fun c9 => absurd c9 c0) (fun _ => ?_)
    refine V_iconst (v := 1) dL_changes_238 (by decide) ?_
    refine V_goto (tgt := 243) dL_changes_239 (by decide) ?_
    exact V_zret dL_changes_243 rfl bN1 ⟨by show k9 + 1 ≤ 128; omega, by show n9 + 6 ≤ 16384; omega⟩ ⟨_, _, _, _, _, _, _, _, _, ⟨rfl, rfl, rfl, Or.inl ⟨rfl, c1, c2⟩⟩, q2⟩
  · refine V_if_lt (tgt := 242) dL_changes_235 (by decide) (fun _ => ?_) (fun c9 => absurd c0 c9)
    refine V_iconst (v := 0) dL_changes_242 (by decide) ?_
    exact V_zret dL_changes_243 rfl bN0 ⟨by show k9 + 1 ≤ 128; omega, by show n9 + 6 ≤ 16384; omega⟩ ⟨_, _, _, _, _, _, _, _, _, ⟨rfl, rfl, rfl, Or.inr ⟨rfl, c1, c2⟩⟩, q2⟩
set_option maxRecDepth 20000 in
set_option maxHeartbeats 2000000 in
theorem ch_244 {X : KX} (hxs : X.1.stackTraces = false) (hg : GX X) (hg2 : GP2 X) {h : AH} {x : Nat} {S : SH} {past : List SH} {N : SH} {hs le lc lf : Int32} {ln : List Int32} (hW : OpW X h x S past N hs le lc lf [] ln) {B K T : Nat} (hI : Inv B K T S) (hK : K < 900) (hT : T < 900) (hB : B < 2 ^ 20) {xx p2 b3 z4 : Int32} {c5 k9 n9 : Nat} (hk : k9 ≤ 8) (hn : n9 ≤ 64) : V X mL_changes (zF X mL_changes (zO X x (fun o S' past' N' hs' le' lc' lf' txt' ln' => N' = N ∧ hs' = hs ∧ txt' = [] ∧ ((o = .inl (some (.int 1)) ∧ past' = (S :: past).take 8 ∧ Inv (B + 720) (K + 1) (T + 5) S') ∨ (o = .inl (some (.int 0)) ∧ S' = S ∧ past' = past))))) k9 n9 244 [(0, .ref x), (1, .int xx), (2, .int p2), (3, .int b3), (4, .int z4), (5, .int (nI c5))] [] h := by
  refine V_aload_n dL_changes_244 0 rfl ?_
  refine V_iload_n dL_changes_245 3 rfl ?_
  refine V_iload dL_changes_246 4 rfl ?_
  have hc : Chg (Inv (B + 720) (K + 1) (T + 5)) S past (wI ([-1001, -1002] : List Int32) (T_X7_cueHush S past b3 z4).1) (T_X7_cueHush S past b3 z4).2.1 (T_X7_cueHush S past b3 z4).2.2 := by unfold T_X7_cueHush; exact chg2 (P := (Inv (B + 720) (K + 1) (T + 5))) (OkR_imp (ok_putHush b3 z4 hI (by omega) (by omega)) (fun S hS => Inv_mono hS (by omega) (by omega) (by omega))) (by decide) (by decide)
  refine V_cSHi (As := [.ref x, .int b3, .int z4]) (rest := []) dL_changes_248 cvL_176 (c_L_cueHush hxs hg hW b3 z4) ⟨Nat.le_of_ble_eq_true rfl, Nat.le_of_ble_eq_true rfl, by show k9 + 1 ≤ 128; omega, by show n9 + 6 ≤ 16384; omega⟩ (Nat.le_of_ble_eq_true rfl) rfl (fun h2 q2 => ?_)
  rcases hc with ⟨c0, c1, c2⟩ | ⟨c0, c1, c2⟩
  · refine V_if_lt (tgt := 258) dL_changes_251 (by decide) (fun c9 => absurd c9 c0) (fun _ => ?_)
    refine V_iconst (v := 1) dL_changes_254 (by decide) ?_
    refine V_goto (tgt := 259) dL_changes_255 (by decide) ?_
    exact V_zret dL_changes_259 rfl bN1 ⟨by show k9 + 1 ≤ 128; omega, by show n9 + 6 ≤ 16384; omega⟩ ⟨_, _, _, _, _, _, _, _, _, ⟨rfl, rfl, rfl, Or.inl ⟨rfl, c1, c2⟩⟩, q2⟩
  · refine V_if_lt (tgt := 258) dL_changes_251 (by decide) (fun _ => ?_) (fun c9 => absurd c0 c9)
    refine V_iconst (v := 0) dL_changes_258 (by decide) ?_
    exact V_zret dL_changes_259 rfl bN0 ⟨by show k9 + 1 ≤ 128; omega, by show n9 + 6 ≤ 16384; omega⟩ ⟨_, _, _, _, _, _, _, _, _, ⟨rfl, rfl, rfl, Or.inr ⟨rfl, c1, c2⟩⟩, q2⟩
set_option maxRecDepth 20000 in
set_option maxHeartbeats 2000000 in
theorem ch_260 {X : KX} (hxs : X.1.stackTraces = false) (hg : GX X) (hg2 : GP2 X) {h : AH} {x : Nat} {S : SH} {past : List SH} {N : SH} {hs le lc lf : Int32} {ln : List Int32} (hW : OpW X h x S past N hs le lc lf [] ln) {B K T : Nat} (hI : Inv B K T S) (hK : K < 900) (hT : T < 900) (hB : B < 2 ^ 20) {xx p2 b3 z4 : Int32} {c5 k9 n9 : Nat} (hk : k9 ≤ 8) (hn : n9 ≤ 64) : V X mL_changes (zF X mL_changes (zO X x (fun o S' past' N' hs' le' lc' lf' txt' ln' => N' = N ∧ hs' = hs ∧ txt' = [] ∧ ((o = .inl (some (.int 1)) ∧ past' = (S :: past).take 8 ∧ Inv (B + 720) (K + 1) (T + 5) S') ∨ (o = .inl (some (.int 0)) ∧ S' = S ∧ past' = past))))) k9 n9 260 [(0, .ref x), (1, .int xx), (2, .int p2), (3, .int b3), (4, .int z4), (5, .int (nI c5))] [] h := by
  refine V_aload_n dL_changes_260 0 rfl ?_
  refine V_iload dL_changes_261 5 rfl ?_
  have hc : Chg (Inv (B + 720) (K + 1) (T + 5)) S past (wI ([-1001] : List Int32) (T_X7_cancelCue S past (nI c5)).1) (T_X7_cancelCue S past (nI c5)).2.1 (T_X7_cancelCue S past (nI c5)).2.2 := by unfold T_X7_cancelCue; exact chg1 (P := (Inv (B + 720) (K + 1) (T + 5))) (OkR_imp (ok_cancel (nI c5) hI) (fun S hS => Inv_mono hS (by omega) (by omega) (by omega))) (by decide)
  refine V_cSHi (As := [.ref x, .int (nI c5)]) (rest := []) dL_changes_263 cvL_250 (c_L_cancel hxs hg hW (nI c5)) ⟨Nat.le_of_ble_eq_true rfl, Nat.le_of_ble_eq_true rfl, by show k9 + 1 ≤ 128; omega, by show n9 + 6 ≤ 16384; omega⟩ (Nat.le_of_ble_eq_true rfl) rfl (fun h2 q2 => ?_)
  rcases hc with ⟨c0, c1, c2⟩ | ⟨c0, c1, c2⟩
  · refine V_if_lt (tgt := 273) dL_changes_266 (by decide) (fun c9 => absurd c9 c0) (fun _ => ?_)
    refine V_iconst (v := 1) dL_changes_269 (by decide) ?_
    refine V_goto (tgt := 274) dL_changes_270 (by decide) ?_
    exact V_zret dL_changes_274 rfl bN1 ⟨by show k9 + 1 ≤ 128; omega, by show n9 + 6 ≤ 16384; omega⟩ ⟨_, _, _, _, _, _, _, _, _, ⟨rfl, rfl, rfl, Or.inl ⟨rfl, c1, c2⟩⟩, q2⟩
  · refine V_if_lt (tgt := 273) dL_changes_266 (by decide) (fun _ => ?_) (fun c9 => absurd c0 c9)
    refine V_iconst (v := 0) dL_changes_273 (by decide) ?_
    exact V_zret dL_changes_274 rfl bN0 ⟨by show k9 + 1 ≤ 128; omega, by show n9 + 6 ≤ 16384; omega⟩ ⟨_, _, _, _, _, _, _, _, _, ⟨rfl, rfl, rfl, Or.inr ⟨rfl, c1, c2⟩⟩, q2⟩
set_option maxRecDepth 20000 in
set_option maxHeartbeats 2000000 in
theorem ch_275 {X : KX} (hxs : X.1.stackTraces = false) (hg : GX X) (hg2 : GP2 X) {h : AH} {x : Nat} {S : SH} {past : List SH} {N : SH} {hs le lc lf : Int32} {ln : List Int32} (hW : OpW X h x S past N hs le lc lf [] ln) {B K T : Nat} (hI : Inv B K T S) (hK : K < 900) (hT : T < 900) (hB : B < 2 ^ 20) {xx p2 b3 z4 : Int32} {c5 k9 n9 : Nat} (hk : k9 ≤ 8) (hn : n9 ≤ 64) : V X mL_changes (zF X mL_changes (zO X x (fun o S' past' N' hs' le' lc' lf' txt' ln' => N' = N ∧ hs' = hs ∧ txt' = [] ∧ ((o = .inl (some (.int 1)) ∧ past' = (S :: past).take 8 ∧ Inv (B + 720) (K + 1) (T + 5) S') ∨ (o = .inl (some (.int 0)) ∧ S' = S ∧ past' = past))))) k9 n9 275 [(0, .ref x), (1, .int xx), (2, .int p2), (3, .int b3), (4, .int z4), (5, .int (nI c5))] [] h := by
  refine V_aload_n dL_changes_275 0 rfl ?_
  refine V_iload dL_changes_276 5 rfl ?_
  refine V_iload_n dL_changes_278 3 rfl ?_
  have hc : Chg (Inv (B + 720) (K + 1) (T + 5)) S past (wI ([-1001, -1002] : List Int32) (T_X7_moveCue S past (nI c5) b3).1) (T_X7_moveCue S past (nI c5) b3).2.1 (T_X7_moveCue S past (nI c5) b3).2.2 := by unfold T_X7_moveCue; exact chg2 (P := (Inv (B + 720) (K + 1) (T + 5))) (OkR_imp (ok_move (nI c5) b3 hI (by omega)) (fun S hS => Inv_mono hS (by omega) (by omega) (by omega))) (by decide) (by decide)
  refine V_cSHi (As := [.ref x, .int (nI c5), .int b3]) (rest := []) dL_changes_279 cvL_253 (c_L_move hxs hg hW (nI c5) b3) ⟨Nat.le_of_ble_eq_true rfl, Nat.le_of_ble_eq_true rfl, by show k9 + 1 ≤ 128; omega, by show n9 + 6 ≤ 16384; omega⟩ (Nat.le_of_ble_eq_true rfl) rfl (fun h2 q2 => ?_)
  rcases hc with ⟨c0, c1, c2⟩ | ⟨c0, c1, c2⟩
  · refine V_if_lt (tgt := 289) dL_changes_282 (by decide) (fun c9 => absurd c9 c0) (fun _ => ?_)
    refine V_iconst (v := 1) dL_changes_285 (by decide) ?_
    refine V_goto (tgt := 290) dL_changes_286 (by decide) ?_
    exact V_zret dL_changes_290 rfl bN1 ⟨by show k9 + 1 ≤ 128; omega, by show n9 + 6 ≤ 16384; omega⟩ ⟨_, _, _, _, _, _, _, _, _, ⟨rfl, rfl, rfl, Or.inl ⟨rfl, c1, c2⟩⟩, q2⟩
  · refine V_if_lt (tgt := 289) dL_changes_282 (by decide) (fun _ => ?_) (fun c9 => absurd c0 c9)
    refine V_iconst (v := 0) dL_changes_289 (by decide) ?_
    exact V_zret dL_changes_290 rfl bN0 ⟨by show k9 + 1 ≤ 128; omega, by show n9 + 6 ≤ 16384; omega⟩ ⟨_, _, _, _, _, _, _, _, _, ⟨rfl, rfl, rfl, Or.inr ⟨rfl, c1, c2⟩⟩, q2⟩
set_option maxRecDepth 20000 in
set_option maxHeartbeats 2000000 in
theorem ch_291 {X : KX} (hxs : X.1.stackTraces = false) (hg : GX X) (hg2 : GP2 X) {h : AH} {x : Nat} {S : SH} {past : List SH} {N : SH} {hs le lc lf : Int32} {ln : List Int32} (hW : OpW X h x S past N hs le lc lf [] ln) {B K T : Nat} (hI : Inv B K T S) (hK : K < 900) (hT : T < 900) (hB : B < 2 ^ 20) {xx p2 b3 z4 : Int32} {c5 k9 n9 : Nat} (hk : k9 ≤ 8) (hn : n9 ≤ 64) : V X mL_changes (zF X mL_changes (zO X x (fun o S' past' N' hs' le' lc' lf' txt' ln' => N' = N ∧ hs' = hs ∧ txt' = [] ∧ ((o = .inl (some (.int 1)) ∧ past' = (S :: past).take 8 ∧ Inv (B + 720) (K + 1) (T + 5) S') ∨ (o = .inl (some (.int 0)) ∧ S' = S ∧ past' = past))))) k9 n9 291 [(0, .ref x), (1, .int xx), (2, .int p2), (3, .int b3), (4, .int z4), (5, .int (nI c5))] [] h := by
  refine V_aload_n dL_changes_291 0 rfl ?_
  refine V_iload_n dL_changes_292 1 rfl ?_
  refine V_iconst (v := 4) dL_changes_293 (by decide) ?_
  refine V_ishr dL_changes_294 ?_
  refine V_bipush (v := 33) dL_changes_295 (by decide) ?_
  refine V_cSg (As := [.int (xx >>> (4 &&& 31)), .int 33]) (rest := [.ref x]) dL_changes_297 cvL_164 (c_L_some hxs (xx >>> (4 &&& 31)) 33 (by decide)) ⟨Nat.le_of_ble_eq_true rfl, Nat.le_of_ble_eq_true rfl, by show k9 + 0 ≤ 128; omega, by show n9 + 0 ≤ 16384; omega⟩ (Nat.le_of_ble_eq_true rfl) rfl (fun h1 e1 => ?_)
  subst e1
  generalize smI (xx >>> (4 &&& 31)) 33 = a9
  have hc : Chg (Inv (B + 720) (K + 1) (T + 5)) S past (wI ([-1001] : List Int32) (T_X7_setLimit S past a9).1) (T_X7_setLimit S past a9).2.1 (T_X7_setLimit S past a9).2.2 := by unfold T_X7_setLimit; exact chg1 (P := (Inv (B + 720) (K + 1) (T + 5))) (OkR_imp (ok_limit a9 hI) (fun S hS => Inv_mono hS (by omega) (by omega) (by omega))) (by decide)
  refine V_cSHi (As := [.ref x, .int a9]) (rest := []) dL_changes_300 cvL_169 (c_L_setLimit hxs hg hW a9) ⟨Nat.le_of_ble_eq_true rfl, Nat.le_of_ble_eq_true rfl, by show k9 + 0 + 1 ≤ 128; omega, by show n9 + 0 + 6 ≤ 16384; omega⟩ (Nat.le_of_ble_eq_true rfl) rfl (fun h2 q2 => ?_)
  rcases hc with ⟨c0, c1, c2⟩ | ⟨c0, c1, c2⟩
  · refine V_if_lt (tgt := 310) dL_changes_303 (by decide) (fun c9 => absurd c9 c0) (fun _ => ?_)
    refine V_iconst (v := 1) dL_changes_306 (by decide) ?_
    refine V_goto (tgt := 311) dL_changes_307 (by decide) ?_
    exact V_zret dL_changes_311 rfl bN1 ⟨by show k9 + 0 + 1 ≤ 128; omega, by show n9 + 0 + 6 ≤ 16384; omega⟩ ⟨_, _, _, _, _, _, _, _, _, ⟨rfl, rfl, rfl, Or.inl ⟨rfl, c1, c2⟩⟩, q2⟩
  · refine V_if_lt (tgt := 310) dL_changes_303 (by decide) (fun _ => ?_) (fun c9 => absurd c0 c9)
    refine V_iconst (v := 0) dL_changes_310 (by decide) ?_
    exact V_zret dL_changes_311 rfl bN0 ⟨by show k9 + 0 + 1 ≤ 128; omega, by show n9 + 0 + 6 ≤ 16384; omega⟩ ⟨_, _, _, _, _, _, _, _, _, ⟨rfl, rfl, rfl, Or.inr ⟨rfl, c1, c2⟩⟩, q2⟩
set_option maxRecDepth 20000 in
set_option maxHeartbeats 2000000 in
theorem ch_312 {X : KX} (hxs : X.1.stackTraces = false) (hg : GX X) (hg2 : GP2 X) {h : AH} {x : Nat} {S : SH} {past : List SH} {N : SH} {hs le lc lf : Int32} {ln : List Int32} (hW : OpW X h x S past N hs le lc lf [] ln) {B K T : Nat} (hI : Inv B K T S) (hK : K < 900) (hT : T < 900) (hB : B < 2 ^ 20) {xx p2 b3 z4 : Int32} {c5 k9 n9 : Nat} (hk : k9 ≤ 8) (hn : n9 ≤ 64) : V X mL_changes (zF X mL_changes (zO X x (fun o S' past' N' hs' le' lc' lf' txt' ln' => N' = N ∧ hs' = hs ∧ txt' = [] ∧ ((o = .inl (some (.int 1)) ∧ past' = (S :: past).take 8 ∧ Inv (B + 720) (K + 1) (T + 5) S') ∨ (o = .inl (some (.int 0)) ∧ S' = S ∧ past' = past))))) k9 n9 312 [(0, .ref x), (1, .int xx), (2, .int p2), (3, .int b3), (4, .int z4), (5, .int (nI c5))] [] h := by
  refine V_aload_n dL_changes_312 0 rfl ?_
  have hc : Chg (Inv (B + 720) (K + 1) (T + 5)) S past (wI ([-1001] : List Int32) (T_X7_turnAct S past).1) (T_X7_turnAct S past).2.1 (T_X7_turnAct S past).2.2 := by unfold T_X7_turnAct; exact chg1 (P := (Inv (B + 720) (K + 1) (T + 5))) (OkR_imp (ok_openAct hI) (fun S hS => Inv_mono hS (by omega) (by omega) (by omega))) (by decide)
  refine V_cSHi (As := [.ref x]) (rest := []) dL_changes_313 cvL_256 (c_L_turnAct hxs hg hW) ⟨Nat.le_of_ble_eq_true rfl, Nat.le_of_ble_eq_true rfl, by show k9 + 1 ≤ 128; omega, by show n9 + 6 ≤ 16384; omega⟩ (Nat.le_of_ble_eq_true rfl) rfl (fun h2 q2 => ?_)
  rcases hc with ⟨c0, c1, c2⟩ | ⟨c0, c1, c2⟩
  · refine V_if_lt (tgt := 323) dL_changes_316 (by decide) (fun c9 => absurd c9 c0) (fun _ => ?_)
    refine V_iconst (v := 1) dL_changes_319 (by decide) ?_
    refine V_goto (tgt := 324) dL_changes_320 (by decide) ?_
    exact V_zret dL_changes_324 rfl bN1 ⟨by show k9 + 1 ≤ 128; omega, by show n9 + 6 ≤ 16384; omega⟩ ⟨_, _, _, _, _, _, _, _, _, ⟨rfl, rfl, rfl, Or.inl ⟨rfl, c1, c2⟩⟩, q2⟩
  · refine V_if_lt (tgt := 323) dL_changes_316 (by decide) (fun _ => ?_) (fun c9 => absurd c0 c9)
    refine V_iconst (v := 0) dL_changes_323 (by decide) ?_
    exact V_zret dL_changes_324 rfl bN0 ⟨by show k9 + 1 ≤ 128; omega, by show n9 + 6 ≤ 16384; omega⟩ ⟨_, _, _, _, _, _, _, _, _, ⟨rfl, rfl, rfl, Or.inr ⟨rfl, c1, c2⟩⟩, q2⟩
set_option maxRecDepth 20000 in
set_option maxHeartbeats 2000000 in
theorem ch_404 {X : KX} (hxs : X.1.stackTraces = false) (hg : GX X) (hg2 : GP2 X) {h : AH} {x : Nat} {S : SH} {past : List SH} {N : SH} {hs le lc lf : Int32} {ln : List Int32} (hW : OpW X h x S past N hs le lc lf [] ln) {B K T : Nat} (hI : Inv B K T S) (hK : K < 900) (hT : T < 900) (hB : B < 2 ^ 20) {xx p2 b3 z4 : Int32} {c5 k9 n9 : Nat} (hk : k9 ≤ 8) (hn : n9 ≤ 64) : V X mL_changes (zF X mL_changes (zO X x (fun o S' past' N' hs' le' lc' lf' txt' ln' => N' = N ∧ hs' = hs ∧ txt' = [] ∧ ((o = .inl (some (.int 1)) ∧ past' = (S :: past).take 8 ∧ Inv (B + 720) (K + 1) (T + 5) S') ∨ (o = .inl (some (.int 0)) ∧ S' = S ∧ past' = past))))) k9 n9 404 [(0, .ref x), (1, .int xx), (2, .int p2), (3, .int b3), (4, .int z4), (5, .int (nI c5))] [] h := by
  refine V_aload_n dL_changes_404 0 rfl ?_
  refine V_iload_n dL_changes_405 1 rfl ?_
  refine V_iconst (v := 4) dL_changes_406 (by decide) ?_
  refine V_ishr dL_changes_407 ?_
  refine V_bipush (v := 6) dL_changes_408 (by decide) ?_
  refine V_cSg (As := [.int (xx >>> (4 &&& 31)), .int 6]) (rest := [.ref x]) dL_changes_410 cvL_164 (c_L_some hxs (xx >>> (4 &&& 31)) 6 (by decide)) ⟨Nat.le_of_ble_eq_true rfl, Nat.le_of_ble_eq_true rfl, by show k9 + 0 ≤ 128; omega, by show n9 + 0 ≤ 16384; omega⟩ (Nat.le_of_ble_eq_true rfl) rfl (fun h1 e1 => ?_)
  subst e1
  obtain ⟨j9, hj9, ej9⟩ := sm_bd (xx >>> (4 &&& 31)) (m := 6) (by decide) (by decide)
  have h95 : smI (xx >>> (4 &&& 31)) 6 ≤ nI 5 := by rw [show (6 : Int32) = nI 6 from rfl, ej9]; exact nI_le (by omega) (by omega)
  generalize smI (xx >>> (4 &&& 31)) 6 = a9 at h95 ⊢
  have hc : Chg (Inv (B + 720) (K + 1) (T + 5)) S past (wI ([-1001] : List Int32) (T_X7_advance S past a9).1) (T_X7_advance S past a9).2.1 (T_X7_advance S past a9).2.2 := by unfold T_X7_advance; exact chg1 (P := (Inv (B + 720) (K + 1) (T + 5))) (OkR_imp (ok_pass a9 (n := 5) h95 (by omega) hI) (fun S hS => Inv_mono hS (by omega) (by omega) (by omega))) (by decide)
  refine V_cSHi (As := [.ref x, .int a9]) (rest := []) dL_changes_413 cvL_179 (c_L_advance hxs hg hW a9) ⟨Nat.le_of_ble_eq_true rfl, Nat.le_of_ble_eq_true rfl, by show k9 + 0 + 1 ≤ 128; omega, by show n9 + 0 + 6 ≤ 16384; omega⟩ (Nat.le_of_ble_eq_true rfl) rfl (fun h2 q2 => ?_)
  rcases hc with ⟨c0, c1, c2⟩ | ⟨c0, c1, c2⟩
  · refine V_if_lt (tgt := 423) dL_changes_416 (by decide) (fun c9 => absurd c9 c0) (fun _ => ?_)
    refine V_iconst (v := 1) dL_changes_419 (by decide) ?_
    refine V_goto (tgt := 424) dL_changes_420 (by decide) ?_
    exact V_zret dL_changes_424 rfl bN1 ⟨by show k9 + 0 + 1 ≤ 128; omega, by show n9 + 0 + 6 ≤ 16384; omega⟩ ⟨_, _, _, _, _, _, _, _, _, ⟨rfl, rfl, rfl, Or.inl ⟨rfl, c1, c2⟩⟩, q2⟩
  · refine V_if_lt (tgt := 423) dL_changes_416 (by decide) (fun _ => ?_) (fun c9 => absurd c0 c9)
    refine V_iconst (v := 0) dL_changes_423 (by decide) ?_
    exact V_zret dL_changes_424 rfl bN0 ⟨by show k9 + 0 + 1 ≤ 128; omega, by show n9 + 0 + 6 ≤ 16384; omega⟩ ⟨_, _, _, _, _, _, _, _, _, ⟨rfl, rfl, rfl, Or.inr ⟨rfl, c1, c2⟩⟩, q2⟩
theorem u_pass1 {a b c : Int32} {S : SH} : U_cmd 9 a b c S = U_pass S a := rfl
theorem u_canc1 {a b c : Int32} {S : SH} : U_cmd 6 a b c S = U_cancel S a := rfl
theorem u_limit1 {a b c : Int32} {S : SH} : U_cmd 8 a b c S = U_limitNoise S a := rfl
theorem u_hiss1 {a b c : Int32} {S : SH} : U_cmd 2 a b c S = U_hiss S a b := rfl
def qAd (B K T : Nat) : Nat → SH → Prop
  | 0, S => Inv B K T S
  | _ + 1, S => Inv (B + 144) K (T + 1) S
def qLi (B K T : Nat) : Nat → SH → Prop
  | 0, S => Inv B K T S
  | 1, S => Inv (B + 6) K T S
  | _ + 2, S => Inv (B + 12) K T S
theorem chAd {cm : Nat → Nat × List Int32 × Int32} {c B K T : Nat} {S : SH} (hC : RdC cm [(9, [1]), (6, [c])]) (hI : Inv B K T S) (hn : (U_all cm 2 16 0 S).2 = none) : Inv (B + 720) (K + 1) (T + 5) (U_all cm 2 16 0 S).1 := by
  have c0 := rd_cm hC (i := 0) rfl
  have c1 := rd_cm hC (i := 1) rfl
  have e1 : rd (cm 0).2.1 0 = 1 := by
    have := c0.2 0 (by decide)
    rw [nI_0] at this
    exact this
  have hq : ∀ i S, i < 2 → qAd B K T i S → 0 ≤ (U_cmd (cm i).1 (rd (cm i).2.1 0) (rd (cm i).2.1 1) (rd (cm i).2.1 2) S).1 → qAd B K T (i + 1) (U_cmd (cm i).1 (rd (cm i).2.1 0) (rd (cm i).2.1 1) (rd (cm i).2.1 2) S).2 := by
    intro i S hi hS h0
    rcases (show i = 0 ∨ i = 1 by omega) with rfl | rfl
    · rw [c0.1, e1, u_pass1] at h0 ⊢
      have hb : (1 : Int32) ≤ nI 1 := by decide
      exact OkR_keep (P := Inv (B + 144) K (T + 1)) (ok_pass 1 (n := 1) hb (by omega) hS) h0
    · rw [c1.1, u_canc1] at h0 ⊢
      exact OkR_keep (P := Inv (B + 144) K (T + 1)) (ok_cancel _ hS) h0
  have : qAd B K T 2 (U_all cm (nI 2) 16 0 S).1 := all_keep (cm := cm) (m := 2) (by omega) (qAd B K T) hq 16 0 S (by omega) (by omega) hI hn
  have h2 : Inv (B + 144) K (T + 1) (U_all cm (nI 2) 16 0 S).1 := this
  exact Inv_mono h2 (by omega) (by omega) (by omega)
theorem chLi {cm : Nat → Nat × List Int32 × Int32} {p B K T : Nat} {S : SH} (hC : RdC cm [(8, [3]), (2, [p, 2])]) (hI : Inv B K T S) (hn : (U_all cm 2 16 0 S).2 = none) : Inv (B + 720) (K + 1) (T + 5) (U_all cm 2 16 0 S).1 := by
  have c0 := rd_cm hC (i := 0) rfl
  have c1 := rd_cm hC (i := 1) rfl
  have hq : ∀ i S, i < 2 → qLi B K T i S → 0 ≤ (U_cmd (cm i).1 (rd (cm i).2.1 0) (rd (cm i).2.1 1) (rd (cm i).2.1 2) S).1 → qLi B K T (i + 1) (U_cmd (cm i).1 (rd (cm i).2.1 0) (rd (cm i).2.1 1) (rd (cm i).2.1 2) S).2 := by
    intro i S hi hS h0
    rcases (show i = 0 ∨ i = 1 by omega) with rfl | rfl
    · rw [c0.1, u_limit1] at h0 ⊢
      exact Inv_mono (OkR_keep (P := Inv B K T) (ok_limit _ hS) h0) (by omega) (by omega) (by omega)
    · rw [c1.1, u_hiss1] at h0 ⊢
      exact Inv_mono (OkR_keep (P := Inv (B + 6 + 6) K T) (ok_hiss _ _ hS) h0) (by omega) (by omega) (by omega)
  have : qLi B K T 2 (U_all cm (nI 2) 16 0 S).1 := all_keep (cm := cm) (m := 2) (by omega) (qLi B K T) hq 16 0 S (by omega) (by omega) hI hn
  have h2 : Inv (B + 12) K T (U_all cm (nI 2) 16 0 S).1 := this
  exact Inv_mono h2 (by omega) (by omega) (by omega)
set_option maxRecDepth 20000 in
set_option maxHeartbeats 4000000 in
theorem ch_392 {X : KX} (hxs : X.1.stackTraces = false) (hg : GX X) (hg2 : GP2 X) {h : AH} {x : Nat} {S : SH} {past : List SH} {N : SH} {hs le lc lf : Int32} {ln : List Int32} (hW : OpW X h x S past N hs le lc lf [] ln) {B K T : Nat} (hI : Inv B K T S) (hK : K < 900) (hT : T < 900) (hB : B < 2 ^ 20) {xx p2 b3 z4 : Int32} {c5 k9 n9 a w : Nat} {t : List Int32} {P : Nat → Bool} (hk : k9 ≤ 40) (hn : n9 ≤ 4096) (hF : OpF X P h x S past N hs le lc lf [] ln) (hS : StrN X h a w t) (hPa : P a = true) (hPw : P w = true) (hl : ∀ q, P q = true → q < h.1) (hx : ∀ q, P q = true → x + 185 ≤ q) (hL : Lts t) (hr : ∃ pos l, rAll t 16 [] 0 0 = (true, 2, pos, l) ∧ ∀ cm, RdC cm l → (U_all cm 2 16 0 S).2 = none → Inv (B + 720) (K + 1) (T + 5) (U_all cm 2 16 0 S).1) : V X mL_changes (zF X mL_changes (zO X x (fun o S' past' N' hs' le' lc' lf' txt' ln' => N' = N ∧ hs' = hs ∧ txt' = [] ∧ ((o = .inl (some (.int 1)) ∧ past' = (S :: past).take 8 ∧ Inv (B + 720) (K + 1) (T + 5) S') ∨ (o = .inl (some (.int 0)) ∧ S' = S ∧ past' = past))))) k9 n9 392 [(0, .ref x), (1, .int xx), (2, .int p2), (3, .int b3), (4, .int z4), (5, .int (nI c5))] [.ref a, .ref x] h := by
  obtain ⟨pos, l, hr, hi⟩ := hr
  refine V_callS (As := [.ref x, .ref a]) (rest := []) dL_changes_392 cvL_277 (c_L_runsN hxs hg hg2 hL hW hF hS hPa hPw hl hx) ⟨Nat.le_of_ble_eq_true rfl, Nat.le_of_ble_eq_true rfl, by show k9 + 64 ≤ 128; omega, by show n9 + 8200 ≤ 16384; omega⟩ (Nat.le_of_ble_eq_true rfl) rfl (fun v h1 hz => ?_) (fun E h1 hz => ?_)
  · obtain ⟨cm, hC, (⟨e1, e2, q⟩ | ⟨r, e1, e2, q⟩)⟩ := run_read hr hz
    · cases e2
      refine V_if_lt (tgt := 402) dL_changes_395 (by decide) (fun c9 => absurd c9 (by decide)) (fun _ => ?_)
      refine V_iconst (v := 1) dL_changes_398 (by decide) ?_
      refine V_goto (tgt := 403) dL_changes_399 (by decide) ?_
      exact V_zret dL_changes_403 rfl bN1 ⟨by show k9 + 64 ≤ 128; omega, by show n9 + 8200 ≤ 16384; omega⟩ ⟨_, _, _, _, _, _, _, _, _, ⟨rfl, rfl, rfl, Or.inl ⟨rfl, rfl, hi cm hC e1⟩⟩, q⟩
    · cases e2
      refine V_if_lt (tgt := 402) dL_changes_395 (by decide) (fun _ => ?_) (fun c9 => absurd (by decide) c9)
      refine V_iconst (v := 0) dL_changes_402 (by decide) ?_
      exact V_zret dL_changes_403 rfl bN0 ⟨by show k9 + 64 ≤ 128; omega, by show n9 + 8200 ≤ 16384; omega⟩ ⟨_, _, _, _, _, _, _, _, _, ⟨rfl, rfl, rfl, Or.inr ⟨rfl, rfl, rfl⟩⟩, q⟩
  · obtain ⟨cm, hC, (⟨e1, e2, q⟩ | ⟨r, e1, e2, q⟩)⟩ := run_read hr hz
    · cases e2
    · cases e2
theorem wNRL_258 : Cond.classLink RL 258 "java/lang/StringBuilder" ∈ GW ∧ Cond.instantiable "java/lang/StringBuilder" 4 ∈ GW ∧ Cond.initialized "java/lang/StringBuilder" ∈ GW := ⟨gw_tab 1372 (by decide +kernel) (by decide +kernel), gw_tab 184 (by decide +kernel) (by decide +kernel), gw_tab 8 (by decide +kernel) (by decide +kernel)⟩
theorem dec_l2 {n : Nat} (h : n < 100) : (dec n).length ≤ 2 := by
  unfold dec
  by_cases c : n < 10
  · rw [if_pos c]; exact (by decide : 1 ≤ 2)
  · rw [if_neg c, if_pos h]; exact Nat.le_refl 2
theorem TxB.obj {X : KX} {h : AH} {a v : Nat} {t : List Int32} (p : TxB X h a v t) : ∃ fs, h.2 a = some (.inr (1, fs)) := by
  obtain ⟨L, ml, hS, -⟩ := p
  exact ⟨_, hS.1⟩
theorem TxB.lt {X : KX} {h : AH} {a v : Nat} {t : List Int32} (p : TxB X h a v t) : a < h.1 ∧ v < h.1 := by
  obtain ⟨L, ml, hS, -⟩ := p
  exact ⟨hS.2.2.2.1, hS.2.2.2.2.1⟩
set_option maxRecDepth 20000 in
set_option maxHeartbeats 4000000 in
theorem ch_325 {X : KX} (hxs : X.1.stackTraces = false) (hg : GX X) (hg2 : GP2 X) {h : AH} {x : Nat} {S : SH} {past : List SH} {N : SH} {hs le lc lf : Int32} {ln : List Int32} (hW : OpW X h x S past N hs le lc lf [] ln) {B K T : Nat} (hI : Inv B K T S) (hK : K < 900) (hT : T < 900) (hB : B < 2 ^ 20) {xx p2 b3 z4 : Int32} {c5 k9 n9 : Nat} (hk : k9 ≤ 8) (hn : n9 ≤ 64) (hc5 : c5 < 18) : V X mL_changes (zF X mL_changes (zO X x (fun o S' past' N' hs' le' lc' lf' txt' ln' => N' = N ∧ hs' = hs ∧ txt' = [] ∧ ((o = .inl (some (.int 1)) ∧ past' = (S :: past).take 8 ∧ Inv (B + 720) (K + 1) (T + 5) S') ∨ (o = .inl (some (.int 0)) ∧ S' = S ∧ past' = past))))) k9 n9 325 [(0, .ref x), (1, .int xx), (2, .int p2), (3, .int b3), (4, .int z4), (5, .int (nI c5))] [] h := by
  refine V_aload_n dL_changes_325 0 rfl ?_
  refine V_iload_n dL_changes_326 1 rfl ?_
  refine V_bipush (v := 6) dL_changes_327 (by decide) ?_
  refine V_ishr dL_changes_329 ?_
  refine V_iconst (v := 1) dL_changes_330 (by decide) ?_
  refine V_iand dL_changes_331 ?_
  by_cases d8 : ((xx >>> (6 &&& 31)) &&& 1) = 0
  · refine V_if_ne (tgt := 359) dL_changes_332 (by decide) (fun c9 => absurd d8 c9) (fun _ => ?_)
    have hlt := l_tAd c5 hc5
    have hd2 := dec_l2 (n := c5) (by omega)
    refine V_newB (ci := 1) (N := 4) (b := h.1) (fs := [.null, .int 0, .int 0, .int 0]) rfl dL_changes_335 wNRL_258 iGJ4 tyJ4_ok rfl (by decide) ⟨by show k9 + 1 ≤ 128; omega, by show n9 + 4 ≤ 16384; omega⟩ (fun h1 he1 f_b fk1 => ?_)
    refine V_dup dL_changes_338 rfl ?_
    refine V_cI (As := []) (rest := [.ref h.1, .ref x]) dL_changes_339 cvL_260 rfl rfl rfl (c_J4_init hxs hg (by rw [he1]) f_b) ⟨Nat.le_of_ble_eq_true rfl, Nat.le_of_ble_eq_true rfl, by show k9 + 1 + 1 ≤ 128; omega, by show n9 + 4 + 16 ≤ 16384; omega⟩ (Nat.le_of_ble_eq_true rfl) rfl (fun h2 q2 => ?_)
    obtain ⟨g1, g2, g3, g4⟩ := q2
    have hB0 : TxB X h2 h.1 (h.1 + 1) [] := ⟨_, _, (ln_new g1 g2 (by omega)).2, ⟨Nat.zero_le _, fun i hi => absurd hi (Nat.not_lt_zero _), fun i hi => absurd hi (Nat.not_lt_zero _)⟩, Or.inl List.length_replicate⟩
    have fr0 : ∀ q, q < h.1 → h2.2 q = h.2 q := fun q hq => (g4 q hq).trans (fk1 q (by omega))
    have hw0 : h.1 < h.1 + 1 := by omega
    have hsz0 : h.1 ≤ h2.1 := by omega
    obtain ⟨fs0, fo0⟩ := hB0.obj
    have lt0 := hB0.lt
    refine V_ldcSW dL_changes_342 (hg.2.1 32 _ _ _ rfl) ?_
    refine V_cVg (As := [.ref (kad X 32)]) (rest := [.ref x]) dL_changes_345 cuL_263 (c_TxS hxs hg hB0 (i := 32) (by decide) (by decide +kernel)) fo0 rfl ⟨Nat.le_of_ble_eq_true rfl, Nat.le_of_ble_eq_true rfl, by show k9 + 1 + 1 + 1 ≤ 128; omega, by show n9 + 4 + 16 + 128 ≤ 16384; omega⟩ (Nat.le_of_ble_eq_true rfl) rfl (fun h3 q3 => ?_)
    obtain ⟨v1, hB1, hf1, hv1⟩ := q3
    have fr1 : ∀ q, q < h.1 → h3.2 q = h.2 q := fun q hq => (hf1.2 q (by omega) (by omega) (by omega)).trans (fr0 q hq)
    have hsz1 : h.1 ≤ h3.1 := Nat.le_trans hsz0 hf1.1
    have hw1 : h.1 < v1 := by omega
    refine V_iload dL_changes_348 5 rfl ?_
    obtain ⟨fs1, fo1⟩ := hB1.obj
    have lt1 := hB1.lt
    refine V_cVg (As := [.int (nI c5)]) (rest := [.ref x]) dL_changes_350 cuL_266 (c_TxN hxs hg hB1 (m := c5) (by omega) (by have e9 : ([] ++ gT.getD 32 [] : List Int32).length = 17 := (by decide +kernel); omega)) fo1 rfl ⟨Nat.le_of_ble_eq_true rfl, Nat.le_of_ble_eq_true rfl, by show k9 + 1 + 1 + 1 + 1 ≤ 128; omega, by show n9 + 4 + 16 + 128 + 128 ≤ 16384; omega⟩ (Nat.le_of_ble_eq_true rfl) rfl (fun h4 q4 => ?_)
    obtain ⟨v2, hB2, hf2, hv2⟩ := q4
    have fr2 : ∀ q, q < h.1 → h4.2 q = h.2 q := fun q hq => (hf2.2 q (by omega) (by omega) (by omega)).trans (fr1 q hq)
    have hsz2 : h.1 ≤ h4.1 := Nat.le_trans hsz1 hf2.1
    have hw2 : h.1 < v2 := by omega
    obtain ⟨fs2, fo2⟩ := hB2.obj
    have hB9 : TxB X h4 h.1 v2 (tAd c5) := hB2
    refine V_cVg (As := []) (rest := [.ref x]) dL_changes_353 cuL_269 (c_toString hxs hg hB9 ⟨by have := hlt.2.1; omega, hlt.1⟩) fo2 rfl ⟨Nat.le_of_ble_eq_true rfl, Nat.le_of_ble_eq_true rfl, by show k9 + 1 + 1 + 1 + 1 + 2 ≤ 128; omega, by show n9 + 4 + 16 + 128 + 128 + 160 ≤ 16384; omega⟩ (Nat.le_of_ble_eq_true rfl) rfl (fun h9 q9 => ?_)
    obtain ⟨hStr, hz9, hfr9⟩ := q9
    refine V_goto (tgt := 392) dL_changes_356 (by decide) ?_
    have hfr : ∀ q, q < h.1 → h9.2 q = h.2 q := fun q hq => (hfr9 q (by omega)).trans (fr2 q hq)
    have hle := hW.lim
    have r09 : (mR mJ4_init_da8c8).cells = 1 ∧ (mR mJ4_init_da8c8).slots = 16 := ⟨rfl, rfl⟩
    have r19 : (mR mJ4_append_15ec4).cells = 1 ∧ (mR mJ4_append_15ec4).slots = 128 := ⟨rfl, rfl⟩
    have r29 : (mR mJ4_append_bf812).cells = 1 ∧ (mR mJ4_append_bf812).slots = 128 := ⟨rfl, rfl⟩
    have r49 : (mR mL_some).cells = 0 ∧ (mR mL_some).slots = 0 := ⟨rfl, rfl⟩
    have r39 : (mR mJ4_toString_0e30d).cells = 2 ∧ (mR mJ4_toString_0e30d).slots = 160 := ⟨rfl, rfl⟩
    exact ch_392 hxs hg hg2 (hW.old (by omega) hfr) hI hK hT hB (P := fun q => decide (h.1 ≤ q ∧ q < h9.1)) (a := h4.1) (w := h4.1 + 1) (t := tAd c5) (by omega) (by omega) (OpF.of hW (by omega) hfr (fun q hq => decide_eq_false (fun c => by omega))) hStr (decide_eq_true ⟨by omega, by omega⟩) (decide_eq_true ⟨by omega, by omega⟩) (fun q hq => (of_decide_eq_true hq).2) (fun q hq => by have := (of_decide_eq_true hq).1; omega) (lts_tAd hc5) ⟨_, _, r_tAd c5 hc5, fun cm hC hn => chAd hC hI hn⟩
  · refine V_if_ne (tgt := 359) dL_changes_332 (by decide) (fun _ => ?_) (fun c9 => absurd c9 d8)
    refine V_newB (ci := 1) (N := 4) (b := h.1) (fs := [.null, .int 0, .int 0, .int 0]) rfl dL_changes_359 wNRL_258 iGJ4 tyJ4_ok rfl (by decide) ⟨by show k9 + 1 ≤ 128; omega, by show n9 + 4 ≤ 16384; omega⟩ (fun h1 he1 f_b fk1 => ?_)
    refine V_dup dL_changes_362 rfl ?_
    refine V_cI (As := []) (rest := [.ref h.1, .ref x]) dL_changes_363 cvL_260 rfl rfl rfl (c_J4_init hxs hg (by rw [he1]) f_b) ⟨Nat.le_of_ble_eq_true rfl, Nat.le_of_ble_eq_true rfl, by show k9 + 1 + 1 ≤ 128; omega, by show n9 + 4 + 16 ≤ 16384; omega⟩ (Nat.le_of_ble_eq_true rfl) rfl (fun h2 q2 => ?_)
    obtain ⟨g1, g2, g3, g4⟩ := q2
    have hB0 : TxB X h2 h.1 (h.1 + 1) [] := ⟨_, _, (ln_new g1 g2 (by omega)).2, ⟨Nat.zero_le _, fun i hi => absurd hi (Nat.not_lt_zero _), fun i hi => absurd hi (Nat.not_lt_zero _)⟩, Or.inl List.length_replicate⟩
    have fr0 : ∀ q, q < h.1 → h2.2 q = h.2 q := fun q hq => (g4 q hq).trans (fk1 q (by omega))
    have hw0 : h.1 < h.1 + 1 := by omega
    have hsz0 : h.1 ≤ h2.1 := by omega
    obtain ⟨fs0, fo0⟩ := hB0.obj
    have lt0 := hB0.lt
    refine V_ldcSW dL_changes_366 (hg.2.1 33 _ _ _ rfl) ?_
    refine V_cVg (As := [.ref (kad X 33)]) (rest := [.ref x]) dL_changes_369 cuL_263 (c_TxS hxs hg hB0 (i := 33) (by decide) (by decide +kernel)) fo0 rfl ⟨Nat.le_of_ble_eq_true rfl, Nat.le_of_ble_eq_true rfl, by show k9 + 1 + 1 + 1 ≤ 128; omega, by show n9 + 4 + 16 + 128 ≤ 16384; omega⟩ (Nat.le_of_ble_eq_true rfl) rfl (fun h3 q3 => ?_)
    obtain ⟨v1, hB1, hf1, hv1⟩ := q3
    have fr1 : ∀ q, q < h.1 → h3.2 q = h.2 q := fun q hq => (hf1.2 q (by omega) (by omega) (by omega)).trans (fr0 q hq)
    have hsz1 : h.1 ≤ h3.1 := Nat.le_trans hsz0 hf1.1
    have hw1 : h.1 < v1 := by omega
    refine V_iload_n dL_changes_372 1 rfl ?_
    refine V_iconst (v := 4) dL_changes_373 (by decide) ?_
    refine V_ishr dL_changes_374 ?_
    refine V_bipush (v := 8) dL_changes_375 (by decide) ?_
    refine V_cSg (As := [.int (xx >>> (4 &&& 31)), .int 8]) (rest := [.ref h.1, .ref x]) dL_changes_377 cvL_164 (c_L_some hxs (xx >>> (4 &&& 31)) 8 (by decide)) ⟨Nat.le_of_ble_eq_true rfl, Nat.le_of_ble_eq_true rfl, by show k9 + 1 + 1 + 1 + 0 ≤ 128; omega, by show n9 + 4 + 16 + 128 + 0 ≤ 16384; omega⟩ (Nat.le_of_ble_eq_true rfl) rfl (fun h7 e7 => ?_)
    subst e7
    obtain ⟨d9, hd9, ed9⟩ := sm_bd (xx >>> (4 &&& 31)) (m := 8) (by decide) (by decide)
    rw [show smI (xx >>> (4 &&& 31)) 8 = nI d9 from ed9]
    have hlt := l_tLi d9 hd9
    have hd2 := dec_l2 (n := d9) (by omega)
    obtain ⟨fs1, fo1⟩ := hB1.obj
    have lt1 := hB1.lt
    refine V_cVg (As := [.int (nI d9)]) (rest := [.ref x]) dL_changes_380 cuL_266 (c_TxN hxs hg hB1 (m := d9) (by omega) (by have e9 : ([] ++ gT.getD 33 [] : List Int32).length = 16 := (by decide +kernel); omega)) fo1 rfl ⟨Nat.le_of_ble_eq_true rfl, Nat.le_of_ble_eq_true rfl, by show k9 + 1 + 1 + 1 + 1 ≤ 128; omega, by show n9 + 4 + 16 + 128 + 128 ≤ 16384; omega⟩ (Nat.le_of_ble_eq_true rfl) rfl (fun h4 q4 => ?_)
    obtain ⟨v2, hB2, hf2, hv2⟩ := q4
    have fr2 : ∀ q, q < h.1 → h4.2 q = h.2 q := fun q hq => (hf2.2 q (by omega) (by omega) (by omega)).trans (fr1 q hq)
    have hsz2 : h.1 ≤ h4.1 := Nat.le_trans hsz1 hf2.1
    have hw2 : h.1 < v2 := by omega
    obtain ⟨fs2, fo2⟩ := hB2.obj
    have lt2 := hB2.lt
    refine V_ldcSW dL_changes_383 (hg.2.1 34 _ _ _ rfl) ?_
    refine V_cVg (As := [.ref (kad X 34)]) (rest := [.ref x]) dL_changes_386 cuL_263 (c_TxS hxs hg hB2 (i := 34) (by decide) (by have e9 : ([] ++ gT.getD 33 [] : List Int32).length = 16 := (by decide +kernel); have e8 : (gT.getD 34 []).length = 1 := (by decide +kernel); rw [List.length_append]; omega)) fo2 rfl ⟨Nat.le_of_ble_eq_true rfl, Nat.le_of_ble_eq_true rfl, by show k9 + 1 + 1 + 1 + 1 + 1 ≤ 128; omega, by show n9 + 4 + 16 + 128 + 128 + 128 ≤ 16384; omega⟩ (Nat.le_of_ble_eq_true rfl) rfl (fun h5 q5 => ?_)
    obtain ⟨v3, hB3, hf3, hv3⟩ := q5
    have fr3 : ∀ q, q < h.1 → h5.2 q = h.2 q := fun q hq => (hf3.2 q (by omega) (by omega) (by omega)).trans (fr2 q hq)
    have hsz3 : h.1 ≤ h5.1 := Nat.le_trans hsz2 hf3.1
    have hw3 : h.1 < v3 := by omega
    obtain ⟨fs3, fo3⟩ := hB3.obj
    have hB9 : TxB X h5 h.1 v3 (tLi d9) := hB3
    refine V_cVg (As := []) (rest := [.ref x]) dL_changes_389 cuL_269 (c_toString hxs hg hB9 ⟨by have := hlt.2.1; omega, hlt.1⟩) fo3 rfl ⟨Nat.le_of_ble_eq_true rfl, Nat.le_of_ble_eq_true rfl, by show k9 + 1 + 1 + 1 + 1 + 1 + 2 ≤ 128; omega, by show n9 + 4 + 16 + 128 + 128 + 128 + 160 ≤ 16384; omega⟩ (Nat.le_of_ble_eq_true rfl) rfl (fun h9 q9 => ?_)
    obtain ⟨hStr, hz9, hfr9⟩ := q9
    have hfr : ∀ q, q < h.1 → h9.2 q = h.2 q := fun q hq => (hfr9 q (by omega)).trans (fr3 q hq)
    have hle := hW.lim
    have r09 : (mR mJ4_init_da8c8).cells = 1 ∧ (mR mJ4_init_da8c8).slots = 16 := ⟨rfl, rfl⟩
    have r19 : (mR mJ4_append_15ec4).cells = 1 ∧ (mR mJ4_append_15ec4).slots = 128 := ⟨rfl, rfl⟩
    have r29 : (mR mJ4_append_bf812).cells = 1 ∧ (mR mJ4_append_bf812).slots = 128 := ⟨rfl, rfl⟩
    have r49 : (mR mL_some).cells = 0 ∧ (mR mL_some).slots = 0 := ⟨rfl, rfl⟩
    have r39 : (mR mJ4_toString_0e30d).cells = 2 ∧ (mR mJ4_toString_0e30d).slots = 160 := ⟨rfl, rfl⟩
    exact ch_392 hxs hg hg2 (hW.old (by omega) hfr) hI hK hT hB (P := fun q => decide (h.1 ≤ q ∧ q < h9.1)) (a := h5.1) (w := h5.1 + 1) (t := tLi d9) (by omega) (by omega) (OpF.of hW (by omega) hfr (fun q hq => decide_eq_false (fun c => by omega))) hStr (decide_eq_true ⟨by omega, by omega⟩) (decide_eq_true ⟨by omega, by omega⟩) (fun q hq => (of_decide_eq_true hq).2) (fun q hq => by have := (of_decide_eq_true hq).1; omega) (lts_tLi hd9) ⟨_, _, r_tLi d9 hd9, fun cm hC hn => chLi hC hI hn⟩
set_option maxRecDepth 20000 in
set_option maxHeartbeats 4000000 in
theorem c_L_changes {X : KX} (hxs : X.1.stackTraces = false) (hg : GX X) (hg2 : GP2 X) {h : AH} {x : Nat} {S : SH} {past : List SH} {N : SH} {hs le lc lf : Int32} {ln : List Int32} (hW : OpW X h x S past N hs le lc lf [] ln) {B K T : Nat} (hI : Inv B K T S) (hK : K < 900) (hT : T < 900) (hB : B < 2 ^ 20) (xx : Int32) : Ct X mL_changes [.ref x, .int xx] h (zO X x (fun o S' past' N' hs' le' lc' lf' txt' ln' => N' = N ∧ hs' = hs ∧ txt' = [] ∧ ((o = .inl (some (.int 1)) ∧ past' = (S :: past).take 8 ∧ Inv (B + 720) (K + 1) (T + 5) S') ∨ (o = .inl (some (.int 0)) ∧ S' = S ∧ past' = past)))) := by
  obtain ⟨n6, hn6, en⟩ := hI.2.2.2.2.2.2.2.2.2.1
  refine Ct.of (by decide) rfl (Nat.le_of_ble_eq_true rfl) rfl hxs ?_
  refine V_iload_n dL_changes_0 1 rfl ?_
  refine V_iconst (v := 4) dL_changes_1 (by decide) ?_
  refine V_ishr dL_changes_2 ?_
  refine V_aload_n dL_changes_3 0 rfl ?_
  refine V_cVmi (As := []) (rest := [.int (xx >>> (4 &&& 31))]) dL_changes_4 cvL_181 (c_X7_performerCount hxs hg hW) hW.obj rfl ⟨Nat.le_of_ble_eq_true rfl, Nat.le_of_ble_eq_true rfl, Nat.le_of_ble_eq_true rfl, Nat.le_of_ble_eq_true rfl⟩ (Nat.le_of_ble_eq_true rfl) rfl (fun h1 hW1 => ?_)
  refine V_iconst (v := 1) dL_changes_7 (by decide) ?_
  refine V_iadd dL_changes_8 ?_
  refine V_cSg (As := [.int (xx >>> (4 &&& 31)), .int ((z_perf S) + 1)]) (rest := []) dL_changes_9 cvL_164 (c_L_some hxs (xx >>> (4 &&& 31)) ((z_perf S) + 1) (by rw [en, nI_1]; exact nI_ne0 (by omega) (by omega))) ⟨Nat.le_of_ble_eq_true rfl, Nat.le_of_ble_eq_true rfl, Nat.le_of_ble_eq_true rfl, Nat.le_of_ble_eq_true rfl⟩ (Nat.le_of_ble_eq_true rfl) rfl (fun h2 e2 => ?_)
  subst e2
  generalize smI (xx >>> (4 &&& 31)) ((z_perf S) + 1) = p2
  refine V_istore_n (lv' := [(2, .int p2), (0, .ref x), (1, .int xx)]) dL_changes_12 rfl (by decide) rfl ?_
  refine V_aload_n dL_changes_13 1 rfl ?_
  refine V_cVmi (As := []) (rest := []) dL_changes_14 cvL_207 (c_X7_now hxs hg hW1) hW1.obj rfl ⟨Nat.le_of_ble_eq_true rfl, Nat.le_of_ble_eq_true rfl, Nat.le_of_ble_eq_true rfl, Nat.le_of_ble_eq_true rfl⟩ (Nat.le_of_ble_eq_true rfl) rfl (fun h3 hW3 => ?_)
  refine V_iload_n dL_changes_17 2 rfl ?_
  refine V_bipush (v := 7) dL_changes_18 (by decide) ?_
  refine V_ishr dL_changes_20 ?_
  refine V_bipush (v := 9) dL_changes_21 (by decide) ?_
  refine V_cSg (As := [.int (xx >>> (7 &&& 31)), .int 9]) (rest := [.int (z_beat S)]) dL_changes_23 cvL_164 (c_L_some hxs (xx >>> (7 &&& 31)) 9 (by decide)) ⟨Nat.le_of_ble_eq_true rfl, Nat.le_of_ble_eq_true rfl, Nat.le_of_ble_eq_true rfl, Nat.le_of_ble_eq_true rfl⟩ (Nat.le_of_ble_eq_true rfl) rfl (fun h4 e_h4 => ?_)
  subst e_h4
  generalize smI (xx >>> (7 &&& 31)) 9 = b8
  refine V_iadd dL_changes_26 ?_
  generalize z_beat S + b8 = b3
  refine V_istore_n (lv' := [(3, .int b3), (2, .int p2), (0, .ref x), (1, .int xx)]) dL_changes_27 rfl (by decide) rfl ?_
  refine V_iload_n dL_changes_28 3 rfl ?_
  refine V_iconst (v := 5) dL_changes_29 (by decide) ?_
  refine V_ishr dL_changes_30 ?_
  refine V_bipush (v := 11) dL_changes_31 (by decide) ?_
  refine V_cSg (As := [.int (xx >>> (5 &&& 31)), .int 11]) (rest := []) dL_changes_33 cvL_164 (c_L_some hxs (xx >>> (5 &&& 31)) 11 (by decide)) ⟨Nat.le_of_ble_eq_true rfl, Nat.le_of_ble_eq_true rfl, Nat.le_of_ble_eq_true rfl, Nat.le_of_ble_eq_true rfl⟩ (Nat.le_of_ble_eq_true rfl) rfl (fun h5 e_h5 => ?_)
  subst e_h5
  generalize smI (xx >>> (5 &&& 31)) 11 = z4
  refine V_istore (lv' := [(4, .int z4), (3, .int b3), (2, .int p2), (0, .ref x), (1, .int xx)]) dL_changes_36 (by decide) rfl ?_
  refine V_iload_n dL_changes_38 4 rfl ?_
  refine V_iconst (v := 4) dL_changes_39 (by decide) ?_
  refine V_ishr dL_changes_40 ?_
  refine V_bipush (v := 18) dL_changes_41 (by decide) ?_
  refine V_cSg (As := [.int (xx >>> (4 &&& 31)), .int 18]) (rest := []) dL_changes_43 cvL_164 (c_L_some hxs (xx >>> (4 &&& 31)) 18 (by decide)) ⟨Nat.le_of_ble_eq_true rfl, Nat.le_of_ble_eq_true rfl, Nat.le_of_ble_eq_true rfl, Nat.le_of_ble_eq_true rfl⟩ (Nat.le_of_ble_eq_true rfl) rfl (fun h6 e_h6 => ?_)
  subst e_h6
  obtain ⟨c5, hc5, ec5⟩ := sm_bd (xx >>> (4 &&& 31)) (m := 18) (by decide) (by decide)
  rw [show smI (xx >>> (4 &&& 31)) 18 = nI c5 from ec5]
  refine V_istore (lv' := [(5, .int (nI c5)), (4, .int z4), (3, .int b3), (2, .int p2), (0, .ref x), (1, .int xx)]) dL_changes_46 (by decide) rfl ?_
  refine V_iload_n dL_changes_48 5 rfl ?_
  refine V_bipush (v := 26) dL_changes_49 (by decide) ?_
  refine V_cSg (As := [.int xx, .int 26]) (rest := []) dL_changes_51 cvL_164 (c_L_some hxs xx 26 (by decide)) ⟨Nat.le_of_ble_eq_true rfl, Nat.le_of_ble_eq_true rfl, Nat.le_of_ble_eq_true rfl, Nat.le_of_ble_eq_true rfl⟩ (Nat.le_of_ble_eq_true rfl) rfl (fun h7 e_h7 => ?_)
  subst e_h7
  obtain ⟨j9, hj9, ej9⟩ := sm_bd xx (m := 26) (by decide) (by decide)
  rw [show smI xx 26 = nI j9 from ej9]
  refine V.loc (lv' := [(0, .ref x), (1, .int xx), (2, .int p2), (3, .int b3), (4, .int z4), (5, .int (nI c5))]) [4, 5, 3, 2, 1, 0] rfl ?_
  rcases (show j9 = 0 ∨ j9 = 1 ∨ j9 = 2 ∨ j9 = 3 ∨ j9 = 4 ∨ j9 = 5 ∨ j9 = 6 ∨ j9 = 7 ∨ j9 = 8 ∨ j9 = 9 ∨ j9 = 10 ∨ j9 = 11 ∨ j9 = 12 ∨ j9 = 13 ∨ j9 = 14 ∨ j9 = 15 ∨ j9 = 16 ∨ j9 = 17 ∨ j9 = 18 ∨ j9 = 19 ∨ j9 = 20 ∨ 21 ≤ j9 by omega) with rfl | rfl | rfl | rfl | rfl | rfl | rfl | rfl | rfl | rfl | rfl | rfl | rfl | rfl | rfl | rfl | rfl | rfl | rfl | rfl | rfl | hj21
  · exact V_tableIn (tgt := 152) (off := 98) dL_changes_54 (by decide) (by decide) (by decide) (by decide) (ch_152 hxs hg hg2 hW3 hI hK hT hB (Nat.le_of_ble_eq_true rfl) (Nat.le_of_ble_eq_true rfl))
  · exact V_tableIn (tgt := 165) (off := 111) dL_changes_54 (by decide) (by decide) (by decide) (by decide) (ch_165 hxs hg hg2 hW3 hI hK hT hB (Nat.le_of_ble_eq_true rfl) (Nat.le_of_ble_eq_true rfl))
  · exact V_tableIn (tgt := 165) (off := 111) dL_changes_54 (by decide) (by decide) (by decide) (by decide) (ch_165 hxs hg hg2 hW3 hI hK hT hB (Nat.le_of_ble_eq_true rfl) (Nat.le_of_ble_eq_true rfl))
  · exact V_tableIn (tgt := 188) (off := 134) dL_changes_54 (by decide) (by decide) (by decide) (by decide) (ch_188 hxs hg hg2 hW3 hI hK hT hB (Nat.le_of_ble_eq_true rfl) (Nat.le_of_ble_eq_true rfl))
  · exact V_tableIn (tgt := 188) (off := 134) dL_changes_54 (by decide) (by decide) (by decide) (by decide) (ch_188 hxs hg hg2 hW3 hI hK hT hB (Nat.le_of_ble_eq_true rfl) (Nat.le_of_ble_eq_true rfl))
  · exact V_tableIn (tgt := 210) (off := 156) dL_changes_54 (by decide) (by decide) (by decide) (by decide) (ch_210 hxs hg hg2 hW3 hI hK hT hB (Nat.le_of_ble_eq_true rfl) (Nat.le_of_ble_eq_true rfl))
  · exact V_tableIn (tgt := 210) (off := 156) dL_changes_54 (by decide) (by decide) (by decide) (by decide) (ch_210 hxs hg hg2 hW3 hI hK hT hB (Nat.le_of_ble_eq_true rfl) (Nat.le_of_ble_eq_true rfl))
  · exact V_tableIn (tgt := 210) (off := 156) dL_changes_54 (by decide) (by decide) (by decide) (by decide) (ch_210 hxs hg hg2 hW3 hI hK hT hB (Nat.le_of_ble_eq_true rfl) (Nat.le_of_ble_eq_true rfl))
  · exact V_tableIn (tgt := 227) (off := 173) dL_changes_54 (by decide) (by decide) (by decide) (by decide) (ch_227 hxs hg hg2 hW3 hI hK hT hB (Nat.le_of_ble_eq_true rfl) (Nat.le_of_ble_eq_true rfl))
  · exact V_tableIn (tgt := 227) (off := 173) dL_changes_54 (by decide) (by decide) (by decide) (by decide) (ch_227 hxs hg hg2 hW3 hI hK hT hB (Nat.le_of_ble_eq_true rfl) (Nat.le_of_ble_eq_true rfl))
  · exact V_tableIn (tgt := 227) (off := 173) dL_changes_54 (by decide) (by decide) (by decide) (by decide) (ch_227 hxs hg hg2 hW3 hI hK hT hB (Nat.le_of_ble_eq_true rfl) (Nat.le_of_ble_eq_true rfl))
  · exact V_tableIn (tgt := 244) (off := 190) dL_changes_54 (by decide) (by decide) (by decide) (by decide) (ch_244 hxs hg hg2 hW3 hI hK hT hB (Nat.le_of_ble_eq_true rfl) (Nat.le_of_ble_eq_true rfl))
  · exact V_tableIn (tgt := 244) (off := 190) dL_changes_54 (by decide) (by decide) (by decide) (by decide) (ch_244 hxs hg hg2 hW3 hI hK hT hB (Nat.le_of_ble_eq_true rfl) (Nat.le_of_ble_eq_true rfl))
  · exact V_tableIn (tgt := 260) (off := 206) dL_changes_54 (by decide) (by decide) (by decide) (by decide) (ch_260 hxs hg hg2 hW3 hI hK hT hB (Nat.le_of_ble_eq_true rfl) (Nat.le_of_ble_eq_true rfl))
  · exact V_tableIn (tgt := 260) (off := 206) dL_changes_54 (by decide) (by decide) (by decide) (by decide) (ch_260 hxs hg hg2 hW3 hI hK hT hB (Nat.le_of_ble_eq_true rfl) (Nat.le_of_ble_eq_true rfl))
  · exact V_tableIn (tgt := 275) (off := 221) dL_changes_54 (by decide) (by decide) (by decide) (by decide) (ch_275 hxs hg hg2 hW3 hI hK hT hB (Nat.le_of_ble_eq_true rfl) (Nat.le_of_ble_eq_true rfl))
  · exact V_tableIn (tgt := 275) (off := 221) dL_changes_54 (by decide) (by decide) (by decide) (by decide) (ch_275 hxs hg hg2 hW3 hI hK hT hB (Nat.le_of_ble_eq_true rfl) (Nat.le_of_ble_eq_true rfl))
  · exact V_tableIn (tgt := 291) (off := 237) dL_changes_54 (by decide) (by decide) (by decide) (by decide) (ch_291 hxs hg hg2 hW3 hI hK hT hB (Nat.le_of_ble_eq_true rfl) (Nat.le_of_ble_eq_true rfl))
  · exact V_tableIn (tgt := 312) (off := 258) dL_changes_54 (by decide) (by decide) (by decide) (by decide) (ch_312 hxs hg hg2 hW3 hI hK hT hB (Nat.le_of_ble_eq_true rfl) (Nat.le_of_ble_eq_true rfl))
  · exact V_tableIn (tgt := 325) (off := 271) dL_changes_54 (by decide) (by decide) (by decide) (by decide) (ch_325 hxs hg hg2 hW3 hI hK hT hB (Nat.le_of_ble_eq_true rfl) (Nat.le_of_ble_eq_true rfl) hc5)
  · exact V_tableIn (tgt := 325) (off := 271) dL_changes_54 (by decide) (by decide) (by decide) (by decide) (ch_325 hxs hg hg2 hW3 hI hK hT hB (Nat.le_of_ble_eq_true rfl) (Nat.le_of_ble_eq_true rfl) hc5)
  · exact V_tableOut (tgt := 404) dL_changes_54 (Or.inr (by rw [nI_toInt (by omega)]; omega)) (by decide) (ch_404 hxs hg hg2 hW3 hI hK hT hB (Nat.le_of_ble_eq_true rfl) (Nat.le_of_ble_eq_true rfl))
