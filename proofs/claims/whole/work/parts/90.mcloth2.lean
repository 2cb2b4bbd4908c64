/-! readCloth of the model, whole -/
def MG (h g : pm_H) : Prop := (∀ a, a ∉ LM → a ≠ 35 → zI g a = zI h a) ∧ (∀ k, (k < 7 ∨ 13 < k) → k ≠ 17 → k ≠ 18 → zI g 35 k = zI h 35 k) ∧ (∀ a, zT g a = zT h a) ∧ (∀ a, zN g a = zN h a) ∧ (∀ a, zR g a = zR h a) ∧ zn g = zn h ∧ zk g = zk h
theorem MG.rf {h : pm_H} : MG h h := ⟨fun _ _ _ => rfl, fun _ _ _ _ => rfl, fun _ => rfl, fun _ => rfl, fun _ => rfl, rfl, rfl⟩
theorem MG.tr {h g f : pm_H} (p : MG h g) (q : MG g f) : MG h f := ⟨fun a h1 h2 => (q.1 a h1 h2).trans (p.1 a h1 h2), fun k h1 h2 h3 => (q.2.1 k h1 h2 h3).trans (p.2.1 k h1 h2 h3), fun a => (q.2.2.1 a).trans (p.2.2.1 a), fun a => (q.2.2.2.1 a).trans (p.2.2.2.1 a), fun a => (q.2.2.2.2.1 a).trans (p.2.2.2.2.1 a), q.2.2.2.2.2.1.trans p.2.2.2.2.2.1, q.2.2.2.2.2.2.trans p.2.2.2.2.2.2⟩
theorem MF.G {L : List Nat} {h g : pm_H} (c : MF L h g) (hL : ∀ a ∈ L, a ∈ LM) : MG h g := ⟨fun a h1 h2 => c.1 a (fun q => h1 (hL a q)) h2, fun k h1 h2 _ => c.2.1 k h1 h2 h2, c.2.2⟩
theorem MG.F {h g : pm_H} (c : MG h g) (i : Nat) (v : Int32) (hi : (7 ≤ i ∧ i ≤ 13) ∨ i = 17 ∨ i = 18) : MG h (yI g 35 i v) := ⟨fun a h1 h2 => (zI_yAn g _ h2).trans (c.1 a h1 h2), fun k h1 h2 h3 => by
  rw [zI_yI, if_pos rfl, va_upA, if_neg (by omega)]; exact c.2.1 k h1 h2 h3, c.2.2⟩
theorem MG.I {h g : pm_H} (c : MG h g) (a i : Nat) (v : Int32) (ha : a ∈ LM) (h35 : a ≠ 35) : MG h (yI g a i v) := ⟨fun b h1 h2 => (zI_yAn g _ (fun e => h1 (by rw [e]; exact ha))).trans (c.1 b h1 h2), fun k h1 h2 h3 => by
  rw [zI_yI, if_neg (Ne.symm h35)]; exact c.2.1 k h1 h2 h3, c.2.2⟩
theorem MG.SK {h g : pm_H} (k : MG h g) (s : SK h) : SK g :=
  ⟨fun a ha => (k.2.2.1 a).trans (s.1 a ha), fun a ha => (k.2.2.2.1 a).trans (s.2.1 a ha), fun a i hi => (congrFun (k.2.2.2.2.1 a) i).trans (s.2.2.1 a i hi), by rw [k.2.2.2.2.2.1]; exact s.2.2.2⟩
theorem I_mb.pushC {S : List BkS} {C : List BkC} {x : BkC} {m15 m16 m16' : Int32} {r37 r38 r39 r40 r41 r42 r43 r45 r39' r40' r41' r42' r43' : Nat → Int32} (I : I_mb (S, C) m15 m16 r37 r38 r39 r40 r41 r42 r43 r45) (hC : ∀ c ∈ C, c.2.length ≤ 12) (e16 : m16' = nI (C.length + 1)) (e39 : r39' = va_up r39 C.length (nI (x.1 + 1))) (e40 : r40' = va_up r40 C.length (nI x.2.length)) (e41 : ∀ j, j < 12 * C.length ∨ 12 * C.length + 12 ≤ j → r41' j = r41 j ∧ r42' j = r42 j ∧ r43' j = r43 j) (e41' : ∀ k (hk : k < x.2.length), r41' (12 * C.length + k) = nI x.2[k].1 ∧ r42' (12 * C.length + k) = nI x.2[k].2.1 ∧ r43' (12 * C.length + k) = bI x.2[k].2.2) : I_mb (S, C ++ [x]) m15 m16' r37 r38 r39' r40' r41' r42' r43' r45 := by
  obtain ⟨i1, i2, i3, i4⟩ := I
  refine ⟨i1, by rw [e16]; simp, i3, fun s hs => ?_⟩
  have hs' : s < C.length + 1 := by simpa using hs
  by_cases e : s = C.length
  · subst e
    have ex : (C ++ [x])[C.length] = x := by simp
    simp only [ex]
    rw [e39, e40, va_upA, va_upA, if_pos rfl, if_pos rfl]
    exact ⟨rfl, rfl, e41'⟩
  · have hl : s < C.length := by omega
    have ex : (C ++ [x])[s] = C[s] := by rw [List.getElem_append_left hl]
    simp only [ex]
    rw [e39, e40, va_upA, va_upA, if_neg e, if_neg e]
    obtain ⟨j1, j2, j3⟩ := i4 s hl
    refine ⟨j1, j2, fun k hk => ?_⟩
    have := hC _ (List.getElem_mem hl)
    have hk' : k < C[s].2.length := hk
    obtain ⟨x1, x2, x3⟩ := e41 (12 * s + k) (by omega)
    rw [x1, x2, x3]
    exact j3 k hk
set_option maxHeartbeats 4000000 in
theorem c142 {h : pm_H} {Q : Option Value → pm_H → Prop} {ch : Nat → Nat} {n i : Nat} {S : List BkS} {C : List BkC} (K : SK h) (hn : n ≤ 800) (hi : i ≤ n) (e4 : zI h 35 4 = nI n) (hch : CH h 36 ch n) (mt : MT h ch n i) (e7 : zI h 35 7 = nI 0) (mb : MBk h (S, C)) (s12 : S.length ≤ 12) (hS : ∀ s ∈ S, s.1 < 26) (c6 : C.length ≤ 6) (hC : ∀ c ∈ C, c.1 < 26 ∧ c.2.length ≤ 12)
    (kb : ∀ k p, rdC ch n S C i (tnx ch n i) (tnx ch n (tnx ch n i)) = .inl (k, p) → ∀ g, MG h g → zI g 35 7 = nI k → zI g 35 8 = nI p → 1 ≤ k → Q none g)
    (k0 : ∀ i' c, rdC ch n S C i (tnx ch n i) (tnx ch n (tnx ch n i)) = (if isg ch n 59 i' then .inr (tnx ch n i', c) else .inl (wrg ch n i')) → i' ≤ n → ∀ g, MG h g → MT g ch n i' → zI g 35 7 = nI 0 → MBk g (S, C ++ [c]) → Q none g) : WP 142 0 [some (.ref 35), none, none, none, none, none] [] h Q := by
  have nb := tnx_b (ch := ch) hi
  have pb := tpl_b (ch := ch) hi
  have nb2 := tnx_b (ch := ch) nb.2.1
  have pb2 := tpl_b (ch := ch) nb.2.1
  have nb3 := tnx_b (ch := ch) nb2.2.1
  have pb3 := tpl_b (ch := ch) nb2.2.1
  have e17 : zI h 35 17 = nI S.length := mb.1
  have e18 : zI h 35 18 = nI C.length := mb.2.1
  have m10 := mt.2.1
  by_cases full : C.length = 6
  · have k' := kb 3 (tpl ch n i) (by unfold rdC; rw [if_pos (by omega)]) (yI (yI h 35 7 (nI 3)) 35 8 (nI (tpl ch n i))) ((MG.rf.F 7 _ (by omega)).F 8 _ (by omega)) (by simp [zI_yI, va_upA]) (by simp [zI_yI, va_upA]) (by decide)
    refine V142A  K ?_ ?_ ?_ <;> simp (disch := omega) only [oi_l, oi_n, z_nI, nIA, nIM, nIS, nIlt, nIle, nIeq, nIC, vpI, Nat.add_sub_cancel, Nat.not_le, Nat.not_lt, Nat.not_lt_zero, Nat.le_refl, not_true_eq_false, not_false_eq_true, false_imp_iff, true_imp_iff, forall_const, implies_true, Nat.reduceEqDiff, Nat.reduceLeDiff, Nat.reduceLT, e18, e7, m10, eq_true full] <;> first | omega | exact k'
  have nxt : ∀ (g1 : pm_H) j Q', MF LM h g1 → j ≤ n → MT g1 ch n j → (∀ g2, TmS g1 g2 → MF LM h g2 → MT g2 ch n (tnx ch n j) → Q' none g2) → WP 128 0 [some (.ref 35), none] [] g1 Q' := fun g1 j Q' m1 hj mt1 k => c128 (m1.SK K) hn (tnx_b (ch := ch) hj).2.1 (by rw [m1.2.1 4 (by omega) (by omega) (by omega)]; exact e4) mt1.2.2.1 (hch.keep (m1.1 36 (by decide) (by decide))) (fun g2 t2 a9 a10 a11 a12 a13 => k g2 t2 (m1.tr (MF.T t2)) ⟨a9, a10, a11, a12, a13⟩)
  have toG : ∀ g, MF LM h g → MG h g := fun g m => m.G (fun a ha => ha)
  have A' : WP 128 0 [some (.ref 35), none] [] h (fun v1 h1 => WP 142 23 [some (.ref 35), none, none, none, none, none] (v1.toList ++ []) h1 Q) := by
    refine nxt h i _ MF.rf hi mt (fun g1 t1 m1 mt1 => ?_)
    have S1 := m1.SK K
    have q7 : zI g1 35 7 = nI 0 := by rw [t1.2.1 7 (by omega)]; exact e7
    have mb1 := mb.T t1
    refine V142B S1 (c134 S1 mt1 hn ?_)
    by_cases nm : isN ch n (tnx ch n i)
    · rw [if_pos nm]
      have zw := w8 mt1 nm.1 nm.2
      have q17 : zI g1 35 17 = nI S.length := mb1.1
      have q18 : zI g1 35 18 = nI C.length := mb1.2.1
      have rn : ∀ k, k < C.length → nmC C k < 26 ∧ zI g1 49 k = nI (nmC C k + 1) := fun k hk => by
        refine ⟨?_, mb1.cnm hk⟩
        have := (hC _ (List.getElem_mem hk)).1
        unfold nmC
        rw [gEl hk]; exact this
      have rs : ∀ k, k < S.length → nmS S k < 26 ∧ zI g1 47 k = nI (nmS S k + 1) := fun k hk => by
        refine ⟨?_, mb1.nm hk⟩
        have := hS _ (List.getElem_mem hk)
        unfold nmS
        rw [gEl hk]; exact this
      have r10 := mt1.2.1
      -- a name that is there already
      have F : fnd (nmC C) (tvl ch n (tnx ch n i)) C.length ≠ none → ∀ r k, k + r = C.length → WP 142 37 [some (.ref 35), some (.int (nI k)), none, none, none, none] [] (yI (yI g1 35 7 (nI 5)) 35 8 (nI (tpl ch n (tnx ch n i)))) Q := by
        intro ne r
        have e5 : rdC ch n S C i (tnx ch n i) (tnx ch n (tnx ch n i)) = .inl (5, tpl ch n (tnx ch n i)) := by
          unfold rdC; rw [if_neg (by omega), if_neg (fun q => q nm), if_pos ne]
        have m2 : MF LM h (yI (yI g1 35 7 (nI 5)) 35 8 (nI (tpl ch n (tnx ch n i)))) := (m1.F 7 _ (by omega)).F 8 _ (by omega)
        have b7 : zI (yI (yI g1 35 7 (nI 5)) 35 8 (nI (tpl ch n (tnx ch n i)))) 35 7 = nI 5 := by simp [zI_yI, va_upA]
        have b8 : zI (yI (yI g1 35 7 (nI 5)) 35 8 (nI (tpl ch n (tnx ch n i)))) 35 8 = nI (tpl ch n (tnx ch n i)) := by simp [zI_yI, va_upA]
        have x18 : zI (yI (yI g1 35 7 (nI 5)) 35 8 (nI (tpl ch n (tnx ch n i)))) 35 18 = nI C.length := by simp [zI_yI, va_upA, q18]
        obtain ⟨gf, egf⟩ : ∃ gf, gf = yI (yI g1 35 7 (nI 5)) 35 8 (nI (tpl ch n (tnx ch n i))) := ⟨_, rfl⟩
        rw [← egf] at m2 b7 b8 x18 ⊢
        induction r with
        | zero =>
          intro k hk
          obtain rfl : k = C.length := by omega
          have k' := kb 5 _ e5 gf (toG _ m2) b7 b8 (by decide)
          have F' : WP 142 75 [some (.ref 35), some (.int (nI C.length)), none, none, none, none] [] gf Q := by
            refine V142F  (m2.SK K) ?_ ?_ ?_ <;> simp (disch := omega) only [oi_l, oi_n, z_nI, nIA, nIM, nIS, nIlt, nIle, nIeq, nIC, vpI, Nat.add_sub_cancel, Nat.not_le, Nat.not_lt, Nat.not_lt_zero, Nat.le_refl, not_true_eq_false, not_false_eq_true, false_imp_iff, true_imp_iff, forall_const, implies_true, Nat.reduceEqDiff, Nat.reduceLeDiff, Nat.reduceLT, b7] <;> first | omega | exact k'
          refine V142E  (m2.SK K) ?_ ?_ ?_ ?_ ?_ <;> simp (disch := omega) only [oi_l, oi_n, z_nI, nIA, nIM, nIS, nIlt, nIle, nIeq, nIC, vpI, Nat.add_sub_cancel, Nat.not_le, Nat.not_lt, Nat.not_lt_zero, Nat.le_refl, not_true_eq_false, not_false_eq_true, false_imp_iff, true_imp_iff, forall_const, implies_true, Nat.reduceEqDiff, Nat.reduceLeDiff, Nat.reduceLT, x18, b7] <;> first | omega | exact F'
        | succ r ih =>
          intro k hk
          have I' := ih (k + 1) (by omega)
          refine V142E  (m2.SK K) ?_ ?_ ?_ ?_ ?_ <;> simp (disch := omega) only [oi_l, oi_n, z_nI, nIA, nIM, nIS, nIlt, nIle, nIeq, nIC, vpI, Nat.add_sub_cancel, Nat.not_le, Nat.not_lt, Nat.not_lt_zero, Nat.le_refl, not_true_eq_false, not_false_eq_true, false_imp_iff, true_imp_iff, forall_const, implies_true, Nat.reduceEqDiff, Nat.reduceLeDiff, Nat.reduceLT, x18, b7, show ¬ C.length ≤ k by omega] <;> first | omega | exact I' | exact fun _ => I'
      have L : ∀ r k, k + r = C.length → (∀ j, j < k → ¬ nmC C j = tvl ch n (tnx ch n i)) → WP 142 37 [some (.ref 35), some (.int (nI k)), none, none, none, none] [] g1 Q := by
        intro r
        induction r with
        | zero =>
          intro k hk no
          obtain rfl : k = C.length := by omega
          have fn : fnd (nmC C) (tvl ch n (tnx ch n i)) C.length = none := (fnd_n _).mpr no
          have ew : (zJ g1 35 14).toInt32 = nI (tvl ch n (tnx ch n i) + 1) := by
            rw [zw, t64, ← oi_n]; exact congrArg Int32.ofInt (by omega)
          have mA : MF LM h (yI g1 49 C.length (nI (tvl ch n (tnx ch n i) + 1))) := m1.I 49 _ _ (by decide) (by decide)
          have mtA : MT (yI g1 49 C.length (nI (tvl ch n (tnx ch n i) + 1))) ch n (tnx ch n i) := mt1.keep (fun k _ _ => by simp only [zI_yI, Nat.reduceEqDiff, if_false]) rfl
          have G' : WP 128 0 [some (.ref 35), none] [] (yI g1 49 C.length (nI (tvl ch n (tnx ch n i) + 1))) (fun v1 h1 => WP 142 101 [some (.ref 35), some (.int (nI C.length)), none, none, none, none] (v1.toList ++ []) h1 Q) := by
            refine nxt _ _ _ mA nb.2.1 mtA (fun g2 t2 m2 mt2 => ?_)
            have y7 : zI g2 35 7 = nI 0 := by rw [t2.2.1 7 (by omega)]; simp only [zI_yI, Nat.reduceEqDiff, if_false]; exact q7
            refine V142G (m2.SK K) (c138 (c := 58) (by decide) (m2.SK K) hn nb2.2.1 (by rw [m2.2.1 4 (by omega) (by omega) (by omega)]; exact e4) mt2 y7 (hch.keep (m2.1 36 (by decide) (by decide))) (fun q g3 m3 b7 b8 => ?_) (fun q g3 t3 mt3 => ?_))
            · have m3' : MF LM h g3 := m2.tr (m3.sub (by simp))
              have csb := cs1_b (ch := ch) (n := n) (i := tnx ch n (tnx ch n i))
              have k' := kb _ _ (by unfold rdC; rw [if_neg (by omega), if_neg (fun q => q nm), if_neg (fun q => q fn), if_pos q]) g3 (toG _ m3') b7 b8 csb.1
              have R' : ∀ d3 d4 d5, WP 142 357 [some (.ref 35), some (.int (nI 0)), some (.int (nI 1)), d3, d4, d5] [] g3 Q := fun d3 d4 d5 => by
                refine V142r  (m3'.SK K) ?_ ?_ ?_ <;> simp (disch := omega) only [oi_l, oi_n, z_nI, nIA, nIM, nIS, nIlt, nIle, nIeq, nIC, vpI, Nat.add_sub_cancel, Nat.not_le, Nat.not_lt, Nat.not_lt_zero, Nat.le_refl, not_true_eq_false, not_false_eq_true, false_imp_iff, true_imp_iff, forall_const, implies_true, Nat.reduceEqDiff, Nat.reduceLeDiff, Nat.reduceLT, b7, Nat.le_zero, show ¬ cs1 ch n (tnx ch n (tnx ch n i)) = 0 by omega] <;> first | omega | exact k'
              refine V142H (m3'.SK K) ?_
              have ne0 : ¬ cs1 ch n (tnx ch n (tnx ch n i)) = 0 := by omega
              have H' : WP 142 111 [some (.ref 35), some (.int (nI 0)), some (.int (nI 1)), none, none, none] [] g3 Q := by
                refine V142h  (m3'.SK K) ?_ ?_ ?_ <;> simp (disch := omega) only [oi_l, oi_n, z_nI, nIA, nIM, nIS, nIlt, nIle, nIeq, nIC, vpI, Nat.add_sub_cancel, Nat.not_le, Nat.not_lt, Nat.not_lt_zero, Nat.le_refl, not_true_eq_false, not_false_eq_true, false_imp_iff, true_imp_iff, forall_const, implies_true, Nat.reduceEqDiff, Nat.reduceLeDiff, Nat.reduceLT, b7, ne0] <;> first | omega | exact R' _ _ _
              exact H'
            · have m3 : MF LM h g3 := m2.tr (MF.T t3)
              have z7 : zI g3 35 7 = nI 0 := by rw [t3.2.1 7 (by omega)]; exact y7
              have er : ∀ a, a ≠ 35 → a ≠ 49 → zI g3 a = zI g1 a := fun a h1 h2 => by
                rw [t3.1 a h1, t2.1 a h1, zI_yI, if_neg h2]
              have e49 : zI g3 49 = va_up (zI g1 49) C.length (nI (tvl ch n (tnx ch n i) + 1)) := by
                rw [t3.1 49 (by decide), t2.1 49 (by decide), zI_yI, if_pos rfl]
              have z17 : zI g3 35 17 = nI S.length := by rw [t3.2.1 17 (by omega), t2.2.1 17 (by omega)]; simp only [zI_yI, Nat.reduceEqDiff, if_false]; exact q17
              have z18 : zI g3 35 18 = nI C.length := by rw [t3.2.1 18 (by omega), t2.2.1 18 (by omega)]; simp only [zI_yI, Nat.reduceEqDiff, if_false]; exact q18
              have rq : ∀ r, prt ch n S (n + 1) (tnx ch n (tnx ch n (tnx ch n i))) [] = r → rdC ch n S C i (tnx ch n i) (tnx ch n (tnx ch n i)) = match r with | .inl f => .inl f | .inr (j, l) => .inr (j, (tvl ch n (tnx ch n i), l)) := fun r er => by
                unfold rdC; rw [if_neg (by omega), if_neg (fun q => q nm), if_neg (fun q => q fn), if_neg (fun z => z q), er]
                rcases r with f | ⟨j, l⟩ <;> rfl
              refine V142H (m3.SK K) ?_
              refine m142L (c := C.length) (S := S) (m3.SK K) hn (by omega) (by rw [m3.2.1 4 (by omega) (by omega) (by omega)]; exact e4) (hch.keep (m3.1 36 (by decide) (by decide))) s12 (fun k hk => by rw [er 47 (by decide) (by decide)]; exact rs k hk) (n + 1) (tnx ch n (tnx ch n (tnx ch n i))) [] g3 none none none (by omega) nb3.2.1 (by decide) MF.rf z17 z18 (fun j _ => ⟨rfl, rfl, rfl⟩) mt3 z7 (fun k hk => absurd hk (Nat.not_lt_zero _)) (fun k p e g4 m4 b7 b8 hk => ?_) (fun i' ps' d3 d4 d5 e hi' hp g4 m4 b17 b18 f3 mt4 b7 pm => ?_)
              · exact kb k p (by rw [rq _ e]) g4 (toG _ (m3.tr (m4.sub (by decide)))) b7 b8 hk
              · have m4' : MF LM h g4 := m3.tr (m4.sub (by decide))
                have k' := k0 i' (tvl ch n (tnx ch n i), ps') (by
                    rw [rq _ e]
                    by_cases sg : isg ch n 59 i'
                    · rw [if_pos sg, if_pos sg]
                    · rw [if_neg sg, if_neg sg]) hi' (yI (yI g4 50 C.length (nI ps'.length)) 35 18 (nI (C.length + 1))) (((toG _ m4').I 50 _ _ (by decide) (by decide)).F 18 _ (by omega)) (mt4.keep (fun k h1 h2 => by simp only [zI_yI, va_upA, Nat.reduceEqDiff, if_true, if_false]; rw [if_neg (by omega)]) rfl) (by simp [zI_yI, va_upA, b7]) (by
                    unfold MBk
                    simp only [zI_yI, va_upA, Nat.reduceEqDiff, if_true, if_false]
                    rw [m4.1 46 (by decide) (by decide), m4.1 47 (by decide) (by decide), m4.1 48 (by decide) (by decide), m4.1 49 (by decide) (by decide), m4.1 50 (by decide) (by decide), er 46 (by decide) (by decide), er 47 (by decide) (by decide), er 48 (by decide) (by decide), er 50 (by decide) (by decide), b17, ← q17]
                    exact I_mb.pushC mb1 (fun c hc => (hC c hc).2) rfl e49 rfl (fun j hj => by
                      have := f3 j hj
                      rw [er 51 (by decide) (by decide), er 52 (by decide) (by decide), er 44 (by decide) (by decide)] at this
                      exact this) pm)
                refine V142r  (m4'.SK K) ?_ ?_ ?_ <;> simp (disch := omega) only [oi_l, oi_n, z_nI, nIA, nIM, nIS, nIlt, nIle, nIeq, nIC, vpI, Nat.add_sub_cancel, Nat.not_le, Nat.not_lt, Nat.not_lt_zero, Nat.le_refl, not_true_eq_false, not_false_eq_true, false_imp_iff, true_imp_iff, forall_const, implies_true, Nat.reduceEqDiff, Nat.reduceLeDiff, Nat.reduceLT, b7, b18] <;> first | omega | exact k'
          have E' : WP 142 75 [some (.ref 35), some (.int (nI C.length)), none, none, none, none] [] g1 Q := by
            refine V142F  S1 ?_ ?_ ?_ <;> simp (disch := omega) only [oi_l, oi_n, z_nI, nIA, nIM, nIS, nIlt, nIle, nIeq, nIC, vpI, Nat.add_sub_cancel, Nat.not_le, Nat.not_lt, Nat.not_lt_zero, Nat.le_refl, not_true_eq_false, not_false_eq_true, false_imp_iff, true_imp_iff, forall_const, implies_true, Nat.reduceEqDiff, Nat.reduceLeDiff, Nat.reduceLT, q7, q18, ew] <;> first | omega | exact G'
          refine V142E  S1 ?_ ?_ ?_ ?_ ?_ <;> simp (disch := omega) only [oi_l, oi_n, z_nI, nIA, nIM, nIS, nIlt, nIle, nIeq, nIC, vpI, Nat.add_sub_cancel, Nat.not_le, Nat.not_lt, Nat.not_lt_zero, Nat.le_refl, not_true_eq_false, not_false_eq_true, false_imp_iff, true_imp_iff, forall_const, implies_true, Nat.reduceEqDiff, Nat.reduceLeDiff, Nat.reduceLT, q18, q7] <;> first | omega | exact E'
        | succ r ih =>
          intro k hk no
          obtain ⟨n1, n2⟩ := rn k (by omega)
          by_cases ek : nmC C k = tvl ch n (tnx ch n i)
          · have F' := F (fun q => (fnd_n _).mp q k (by omega) ek) r (k + 1) (by omega)
            have lg : lg_cmp (nI (nmC C k + 1)).toInt64 (zJ g1 35 14) = 0 := by rw [zw]; exact (lgw (by omega) (by omega)).mpr ek
            refine V142E  S1 ?_ ?_ ?_ ?_ ?_ <;> simp (disch := omega) only [oi_l, oi_n, z_nI, nIA, nIM, nIS, nIlt, nIle, nIeq, nIC, vpI, Nat.add_sub_cancel, Nat.not_le, Nat.not_lt, Nat.not_lt_zero, Nat.le_refl, not_true_eq_false, not_false_eq_true, false_imp_iff, true_imp_iff, forall_const, implies_true, Nat.reduceEqDiff, Nat.reduceLeDiff, Nat.reduceLT, q18, q7, n2, lg, r10, show ¬ C.length ≤ k by omega] <;> first | omega | exact F'
          · have I' := ih (k + 1) (by omega) (fun j hj => by
              by_cases ej : j = k
              · rw [ej]; exact ek
              · exact no j (by omega))
            have lg : ¬ lg_cmp (nI (nmC C k + 1)).toInt64 (zJ g1 35 14) = nI 0 := by rw [zw]; exact fun q => ek ((lgw (by omega) (by omega)).mp q)
            refine V142E  S1 ?_ ?_ ?_ ?_ ?_ <;> simp (disch := omega) only [oi_l, oi_n, z_nI, nIA, nIM, nIS, nIlt, nIle, nIeq, nIC, vpI, Nat.add_sub_cancel, Nat.not_le, Nat.not_lt, Nat.not_lt_zero, Nat.le_refl, not_true_eq_false, not_false_eq_true, false_imp_iff, true_imp_iff, forall_const, implies_true, Nat.reduceEqDiff, Nat.reduceLeDiff, Nat.reduceLT, q18, q7, n2, lg, show ¬ C.length ≤ k by omega] <;> first | omega | exact I'
      have L' := L _ 0 (Nat.zero_add _) (fun j hj => absurd hj (Nat.not_lt_zero _))
      refine V142C  S1 ?_ ?_ <;> simp (disch := omega) only [oi_l, oi_n, z_nI, nIA, nIM, nIS, nIlt, nIle, nIeq, nIC, vpI, Nat.add_sub_cancel, Nat.not_le, Nat.not_lt, Nat.not_lt_zero, Nat.le_refl, not_true_eq_false, not_false_eq_true, false_imp_iff, true_imp_iff, forall_const, implies_true, Nat.reduceEqDiff, Nat.reduceLeDiff, Nat.reduceLT] <;> first | omega | exact L'
    · rw [if_neg nm]
      have C' : WP 137 0 [some (.ref 35)] [] g1 (fun v1 h1 => WP 142 34 [some (.ref 35), none, none, none, none, none] (v1.toList ++ []) h1 Q) := c137 S1 mt1 q7 (fun g2 m2 _ _ b7 b8' => V142D (m2.SK S1) (kb _ _ (by unfold rdC; rw [if_neg (by omega), if_pos nm]) g2 (toG _ (m1.tr (m2.sub (by simp)))) b7 b8' cs1_b.1))
      refine V142C  S1 ?_ ?_ <;> simp (disch := omega) only [oi_l, oi_n, z_nI, nIA, nIM, nIS, nIlt, nIle, nIeq, nIC, vpI, Nat.add_sub_cancel, Nat.not_le, Nat.not_lt, Nat.not_lt_zero, Nat.le_refl, not_true_eq_false, not_false_eq_true, false_imp_iff, true_imp_iff, forall_const, implies_true, Nat.reduceEqDiff, Nat.reduceLeDiff, Nat.reduceLT] <;> first | omega | exact C'
  refine V142A  K ?_ ?_ ?_ <;> simp (disch := omega) only [oi_l, oi_n, z_nI, nIA, nIM, nIS, nIlt, nIle, nIeq, nIC, vpI, Nat.add_sub_cancel, Nat.not_le, Nat.not_lt, Nat.not_lt_zero, Nat.le_refl, not_true_eq_false, not_false_eq_true, false_imp_iff, true_imp_iff, forall_const, implies_true, Nat.reduceEqDiff, Nat.reduceLeDiff, Nat.reduceLT, e18, full] <;> first | omega | exact A'
