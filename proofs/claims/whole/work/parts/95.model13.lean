/-! the model's run as a whole -/
def xCode (fr e : Nat) : Int32 := if e = 13 then 2 else if fr = 0 then 1 else 3
def xUt (u : xv_M) (M fr : Nat) (L : Nat → Nat) (O : Nat → Nat → Nat) (F S : Nat → Nat → Int32) : Prop := ∀ g, g < 8 → ∀ i, i < L g → xv_i u (M + 7) (280 * (fr + g) + i) = nI (O g i) ∧ xv_i u (M + 8) (280 * (fr + g) + i) = F g i ∧ xv_i u (M + 9) (280 * (fr + g) + i) = S g i
def xPres (u : xv_M) (M fr : Nat) (L nP : Nat → Nat) : Prop := ∀ a, a < 8 → nP a ≤ 3 ∧ L a ≤ 265 ∧ (0 < L a → xTh u M fr a (nP a)) ∧ (L a = 0 → (fr = 0 → xv_i u (M + 3) a = 0) ∧ (fr = 16 → xv_i u (M + 14) a = 0))
/-- what each function answers, and that its run ends -/
def xAnsT (ans : Nat → Int32 → Int32 → Int32 → xRs) (L nP : Nat → Nat) (O : Nat → Nat → Nat) (F S : Nat → Nat → Int32) : Prop := ∀ g, g < 8 → 0 < L g → ∀ x y z, ∃ k, xTm (fun p σ => xStep ans L g (O g p) (F g p) (S g p) p σ) (O g) k 0 (xArg (nI (nP g)) x y z, fun _ => 0, 0) (ans g x y z)
def xLwr (L : Nat → Nat) (O : Nat → Nat → Nat) (F : Nat → Nat → Int32) : Prop := ∀ g, g < 8 → ∀ p, p < L g → O g p = 16 → ∀ a, a < 8 → F g p = nI a → a < g
theorem xMS_i {u w : xv_M} {M c : Nat} (z : xSi (xMS M) u w) (hc : c < M + 23) : xv_i w c = xv_i u c := z.2.2.2.2.2.2 _ (fun q => by unfold xMS at q; omega)
theorem xTh_w {u w : xv_M} {M fr a n : Nat} (z : xSi (xMS M) u w) (h : xTh u M fr a n) : xTh w M fr a n := by
  unfold xTh at h ⊢
  rw [xMS_i z (c := M + 3) (by omega), xMS_i z (c := M + 4) (by omega), xMS_i z (c := M + 14) (by omega), xMS_i z (c := M + 22) (by omega)]
  exact h
theorem xGoM {sc : Nat × (Nat → Int32)} {D M : Nat} {a1 a2 a3 a4 a5 : Int32} {fr : Nat} {u : xv_M} {L nP : Nat → Nat} {O : Nat → Nat → Nat} {F S : Nat → Nat → Int32} {G : Nat → Nat → Nat → Prop} {ans : Nat → Int32 → Int32 → Int32 → xRs} {P0 : xv_P} (hM : xMo u M) (hfr : fr = 0 ∨ fr = 16) (hU : xUt u M fr L O F S) (hPr : xPres u M fr L nP) (hA : xAnsT ans L nP O F S) (hG : xGd L O F S G) (hlow : xLwr L O F) (hD : 1 ≤ D) : ∀ m g, g < m → g < 8 → ∀ k (d base pc : Nat) (σ : xZ) (w : xv_M) (r : xRs), d + g ≤ 7 → base ≤ 42 * d → G g pc σ.2.2 → xTm (fun p σ => xStep ans L g (O g p) (F g p) (S g p) p σ) (O g) k pc σ r → xSi (xMS M) u w → xMF w M d base (fr + g) pc σ → (∀ e, r = .inr e → ∀ w', xSi (xMS M) u w' → P0 (.inl (some (.int 0))) (xv_si w' M 35 (xCode fr e))) → (∀ v, r = .inl v → ∀ w' pc' σ', xMR w w' M d base → xMF w' M d base (fr + g) pc' σ' → O g pc' = 17 → G g pc' σ'.2.2 → xTp σ' = v → xGh sc D M a1 a2 a3 a4 a5 fr (xv_N u) (xv_S u) (xv_q (xv_N u) (xv_S u) P0) d (base + σ'.2.2) w') → xGh sc D M a1 a2 a3 a4 a5 fr (xv_N u) (xv_S u) (xv_q (xv_N u) (xv_S u) P0) d (base + σ.2.2) w := by
  intro m
  induction m with
  | zero => intro g h; omega
  | succ m ihm =>
    intro g hgm hg8 k
    induction k with
    | zero => intro d base pc σ w r _ _ _ hT; exact absurd hT id
    | succ k ihk =>
      intro d base pc σ w r hdg hb hp hT zw hF hE hV
      obtain ⟨g1, g2, g3, g4, g5⟩ := hG.2 g pc _ hg8 hp
      obtain ⟨u1, u2, u3⟩ := hU g hg8 pc g1
      obtain ⟨p1, p2, p3, p4⟩ := hPr g hg8
      have hMw := xSi_Mo zw hM
      have w1 : xv_i w (M + 7) (280 * (fr + g) + pc) = nI (O g pc) := by rw [xMS_i zw (by omega)]; exact u1
      have w2 : xv_i w (M + 8) (280 * (fr + g) + pc) = F g pc := by rw [xMS_i zw (by omega)]; exact u2
      have w3 : xv_i w (M + 9) (280 * (fr + g) + pc) = S g pc := by rw [xMS_i zw (by omega)]; exact u3
      have hfg : fr + g < 24 := by omega
      unfold xTm at hT
      by_cases e17 : O g pc = 17
      · rw [if_pos e17] at hT
        exact hV _ hT w pc σ xMR_rf hF e17 hp rfl
      rw [if_neg e17] at hT
      by_cases e16 : O g pc = 16
      · obtain ⟨a, ha8, eFa⟩ := g2.2.2.2.2.2.2 e16
        have hag := hlow g hg8 pc g1 e16 a ha8 eFa
        have hca : (nI a).toNatClampNeg = a := nI_clamp (by omega)
        have n3 : 3 ≤ σ.2.2 := by rw [e16] at g2; exact xOk_16 g2
        have n42 : σ.2.2 ≤ 42 := g2.2.2.1
        have hst : xStep ans L g (O g pc) (F g pc) (S g pc) pc σ = (if a < g ∧ 0 < L a then xCl (ans a (xTp (xPo (xPo σ))) (xTp (xPo σ)) (xTp σ)) pc (xPo (xPo (xPo σ))) else .inr 14) := by
          unfold xStep
          rw [if_neg (by omega), if_neg (by omega), if_neg (by omega), if_neg (by omega), if_neg (by omega), if_pos e16, eFa, hca]
        rw [hst] at hT
        rw [e16] at w1
        rw [eFa] at w2
        clear g2
        by_cases hLa : 0 < L a
        · rw [if_pos ⟨hag, hLa⟩] at hT
          obtain ⟨q1, q2, q3, q4⟩ := hPr a ha8
          obtain ⟨kk, hkk⟩ := hA a ha8 hLa (xTp (xPo (xPo σ))) (xTp (xPo σ)) (xTp σ)
          refine xg_call hMw (by omega) (by omega) hfg (by omega) hF w1 w2 ha8 n3 n42 hfr (xTh_w zw (q3 hLa)) q1 (Nat.le_of_eq zw.1) (Nat.le_of_eq zw.2.1) hD (fun w' R F1 ho F2 => ?_)
          have zw' := xSi_tr zw R.1
          refine ihm a (by omega) ha8 kk (d + 1) (base + (σ.2.2 - 3)) 0 _ w' _ (by omega) (by omega) (hG.1 a ha8 hLa) hkk zw' F2 (fun e he => ?_) (fun v hv w2 pc2 σ2 R2 F3 h17 hp2 htp => ?_)
          · rw [he] at hT
            exact hE e hT
          · rw [hv] at hT
            obtain ⟨j, hj, hj1, hj2⟩ := hT
            have hje : pc + 1 = j := (nI_eq (by omega) (by omega)).mp hj1
            subst hje
            obtain ⟨k1, k2, -, -, -⟩ := hG.2 a pc2 _ ha8 hp2
            have l1 : 1 ≤ σ2.2.2 := by
              have := k2.1
              rw [h17] at this
              exact this
            have l42 : σ2.2.2 ≤ 42 := k2.2.2.1
            clear k2
            have zw2 := xSi_tr zw' R2.1
            obtain ⟨v1, v2, v3⟩ := hU a ha8 pc2 k1
            have ho2 : xv_i w2 (M + 27) d = nI (base + (σ.2.2 - 3)) := by
              rw [(R2.2.2.2 d (Nat.lt_succ_self d)).2.2]
              exact ho
            refine xg_give (xSi_Mo zw2 hM) (by omega) (by omega) (by omega) F3 (by rw [xMS_i zw2 (by omega), v1, h17]) rfl rfl l1 (by omega) ho2 (by omega) ?_
            have n5 : (xPo (xPo (xPo σ))).2.2 = σ.2.2 - 3 := by show σ.2.2 - 1 - 1 - 1 = _; omega
            have F4 : xMF (xv_si w2 (M + 25) (d + 1) (nI (pc2 + 1))) M d base (fr + g) (pc + 1) (xPo (xPo (xPo σ))) := by
              obtain ⟨y1, y2, y3, y4⟩ := F1
              obtain ⟨z1, z2, z3, z4⟩ := R2
              obtain ⟨t1, t2, t3⟩ := z4 d (Nat.lt_succ_self d)
              refine ⟨?_, ?_, fun q hq => ?_, fun q hq => ?_⟩
              · rw [xv_si_ne (by omega), t2]; exact y1
              · rw [xv_si_nj (by omega), t1]; exact y2
              · rw [xv_si_ne (by omega), z3 _ (by omega)]; exact y3 q hq
              · rw [xv_si_ne (by omega), z2 _ (by omega)]; exact y4 q hq
            have F5 := xMF_pu (x := xTp σ2) (j := base + (σ.2.2 - 3)) F4 (by rw [n5])
            have n6 : base + (σ.2.2 - 3) + 1 = base + (xPu (xPo (xPo (xPo σ))) (xTp σ2)).2.2 := by show _ = base + (σ.2.2 - 1 - 1 - 1 + 1); omega
            rw [n6]
            have Rf : xMR w (xv_si (xv_si w2 (M + 25) (d + 1) (nI (pc2 + 1))) (M + 23) (base + (σ.2.2 - 3)) (xTp σ2)) M d base := by
              refine xMR_tr (Nat.le_refl _) (Nat.le_refl _) (xMR_tr (Nat.le_refl _) (Nat.le_refl _) (xMR_tr (Nat.le_refl _) (Nat.le_add_right _ _) xMR_rf R) (xMR_tr (Nat.le_succ d) (Nat.le_add_right _ _) xMR_rf R2)) (xMR_tr (Nat.le_refl _) (Nat.le_refl _) (xMR_si (Or.inr (Or.inr ⟨Or.inl rfl, by omega⟩))) (xMR_si (Or.inl ⟨rfl, by omega⟩)))
            have hj2 : xTm (fun p σ => xStep ans L g (O g p) (F g p) (S g p) p σ) (O g) k (pc + 1) (xPu (xPo (xPo (xPo σ))) (xTp σ2)) r := by rw [htp]; exact hj2
            have hp3 := g5 (by omega) (by omega) e17
            rw [e16, xTa_16, show xLe 16 = 1 by decide] at hp3
            refine ihk d base (pc + 1) _ _ r hdg hb ?_ hj2 (xSi_tr zw Rf.1) F5 hE (fun v' hv' w4 pc4 σ4 R4 F6 h174 hp4 htp4 => hV v' hv' w4 pc4 σ4 (xMR_tr (Nat.le_refl _) (Nat.le_refl _) Rf R4) F6 h174 hp4 htp4)
            show G g (pc + 1) (σ.2.2 - 1 - 1 - 1 + 1)
            rw [show σ.2.2 - 1 - 1 - 1 + 1 = σ.2.2 - 3 + 1 by omega]
            exact hp3
        · rw [if_neg (fun q => hLa q.2)] at hT
          obtain ⟨q1, q2, q3, q4⟩ := hPr a ha8
          obtain ⟨b1, b2⟩ := q4 (by omega)
          have hE2 := hE 14 hT (xv_si w (M + 25) d (nI (pc + 1))) (xSi_tr zw (xSi_si (Or.inr (Or.inr (Or.inl rfl)))))
          refine xg_nocall (P := P0) hMw (by omega) (by omega) hfg (by omega) hF w1 w2 ha8 n3 n42 hfr (fun q => by rw [xMS_i zw (by omega)]; exact b1 q) (fun q => by rw [xMS_i zw (by omega)]; exact b2 q) zw.1 zw.2.1 hD ?_
          unfold xCode at hE2
          rw [if_neg (by decide)] at hE2
          exact hE2
      · cases hst : xStep ans L g (O g pc) (F g pc) (S g pc) pc σ with
        | inr e =>
          rw [hst] at hT
          have hT : r = .inr e := hT
          have hz : (O g pc = 5 ∨ O g pc = 6) ∧ xTp σ = 0 ∧ e = 13 := by
            clear hT hE hV g2
            unfold xStep at hst
            by_cases e0 : O g pc = 0
            · rw [if_pos e0] at hst; cases hst
            rw [if_neg e0] at hst
            by_cases e1 : O g pc = 1
            · rw [if_pos e1] at hst; cases hst
            rw [if_neg e1] at hst
            by_cases e13 : O g pc = 13
            · rw [if_pos e13] at hst; cases hst
            rw [if_neg e13] at hst
            by_cases e14 : O g pc = 14
            · rw [if_pos e14] at hst; cases hst
            rw [if_neg e14] at hst
            by_cases e15 : O g pc = 15
            · rw [if_pos e15] at hst; cases hst
            rw [if_neg e15, if_neg e16] at hst
            by_cases ez : (O g pc = 5 ∨ O g pc = 6) ∧ xTp σ = 0
            · rw [if_pos ez] at hst
              cases hst
              exact ⟨ez.1, ez.2, rfl⟩
            · rw [if_neg ez] at hst; cases hst
          have hE2 := hE e hT (xv_si w (M + 25) d (nI (pc + 1))) (xSi_tr zw (xSi_si (Or.inr (Or.inr (Or.inl rfl)))))
          obtain ⟨z1, z2, z3⟩ := hz
          subst z3
          exact xg_twox (P := P0) (f := 0) hMw (by omega) (by omega) hfg (by omega) hF w1 w2 w3 g2 z1 z2 zw.1 zw.2.1 hD hE2
        | inl q =>
          obtain ⟨q', τ⟩ := q
          rw [hst] at hT
          obtain ⟨j, hj, hj1, hj2⟩ := hT
          have hj1 : q' = nI j := hj1
          subst hj1
          obtain ⟨j', hj', hp'⟩ := xStep_G hG hg8 hp e17 hst
          have hl' := (hG.2 g j' _ hg8 hp').1
          have hje : j = j' := (nI_eq (by omega) (by omega)).mp hj'
          subst hje
          have next : ∀ w', xMR w w' M d base → xMF w' M d base (fr + g) j τ → xGh sc D M a1 a2 a3 a4 a5 fr (xv_N u) (xv_S u) (xv_q (xv_N u) (xv_S u) P0) d (base + τ.2.2) w' := fun w' R F' => ihk d base j τ w' r hdg hb hp' hj2 (xSi_tr zw R.1) F' hE (fun v' hv' w4 pc4 σ4 R4 F6 h174 hp4 htp4 => hV v' hv' w4 pc4 σ4 (xMR_tr (Nat.le_refl _) (Nat.le_refl _) R R4) F6 h174 hp4 htp4)
          have o22 := g2.2.2.2.1
          rcases (by clear g2 g3 g4 g5; unfold xSim; omega : xSim (O g pc) ∨ O g pc = 14 ∨ (2 ≤ O g pc ∧ O g pc ≤ 11)) with c | c | c
          · exact xg_simple hMw (by omega) (by omega) hfg (by omega) hF w1 w2 w3 g2 c hst hj (Nat.le_of_eq zw.1) (Nat.le_of_eq zw.2.1) hD next
          · exact xg_if hMw (by omega) (by omega) hfg (by omega) hF w1 w2 w3 g2 c hst hj (Nat.le_of_eq zw.1) (Nat.le_of_eq zw.2.1) hD next
          · exact xg_two hMw (by omega) (by omega) hfg (by omega) hF w1 w2 w3 g2 c hst hj (Nat.le_of_eq zw.1) (Nat.le_of_eq zw.2.1) hD next

