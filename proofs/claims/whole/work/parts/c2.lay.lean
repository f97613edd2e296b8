/-! the units of a form: how they lie -/
abbrev yU : Type := (Nat → Nat) × (Nat → Int32) × (Nat → Int32) × (Nat → Int32)
def yAt (U : yU) (i o : Nat) (f : Int32) : Prop := U.1 i = o ∧ U.2.1 i = f
def yFx (U : yU) (i o : Nat) : Prop := U.1 i = o ∧ U.2.2.2 i = 1
def yL12 (P : Nat → Nat → Prop) (Y0 : Nat → Prop) (b z0 : Nat) : Prop := Y0 b ∧ P (b + z0) 12
def yL2 (P : Nat → Nat → Prop) (o : Nat) (Y0 Y1 : Nat → Prop) (b z0 z1 : Nat) : Prop := Y0 b ∧ Y1 (b + z0) ∧ P (b + z0 + z1) o
def yL13 (U : yU) (a : Int32) (Y0 Y1 Y2 : Nat → Prop) (b z0 z1 z2 : Nat) : Prop := Y0 b ∧ yAt U (b + z0) 14 a ∧ U.2.2.1 (b + z0) = nI (b + z0 + 1 + z1 + 1) ∧ Y1 (b + z0 + 1) ∧ yAt U (b + z0 + 1 + z1) 15 (nI (b + z0 + 1 + z1 + 1 + z2)) ∧ Y2 (b + z0 + 1 + z1 + 1)
def yL14 (U : yU) (a : Int32) (Y0 Y1 : Nat → Prop) (b z0 : Nat) : Prop := Y0 b ∧ yAt U (b + z0) 13 a ∧ Y1 (b + z0 + 1)
def yL15 (P : Nat → Nat → Prop) (U : yU) (a : Int32) (Y0 : Nat → Prop) (b z0 : Nat) : Prop := Y0 b ∧ P (b + z0) 19 ∧ yAt U (b + z0 + 1) 13 a
def yL16 (U : yU) (a : Int32) (Y0 Y1 : Nat → Prop) (b z0 z1 : Nat) : Prop := Y0 b ∧ yAt U (b + z0) 0 7 ∧ yFx U (b + z0 + 1) 7 ∧ yAt U (b + z0 + 2) 13 a ∧ yAt U (b + z0 + 3) 1 a ∧ (yAt U (b + z0 + 4) 14 1 ∧ U.2.2.1 (b + z0 + 4) = nI (b + z0 + 5 + z1 + 6)) ∧ Y1 (b + z0 + 5) ∧ yFx U (b + z0 + 5 + z1) 18 ∧ yAt U (b + z0 + 5 + z1 + 1) 1 a ∧ yAt U (b + z0 + 5 + z1 + 2) 0 1 ∧ yFx U (b + z0 + 5 + z1 + 3) 3 ∧ yAt U (b + z0 + 5 + z1 + 4) 13 a ∧ yAt U (b + z0 + 5 + z1 + 5) 15 (nI (b + z0 + 3)) ∧ yAt U (b + z0 + 5 + z1 + 6) 0 0
def yL17 (U : yU) (a : Int32) (Y0 Y1 Y2 : Nat → Prop) (b z0 z1 z2 : Nat) : Prop := Y0 b ∧ Y1 (b + z0) ∧ Y2 (b + z0 + z1) ∧ yAt U (b + z0 + z1 + z2) 16 a
def yLo (P : Nat → Nat → Prop) (U : yU) (Y : Nat → Nat → Prop) (z : Nat → Nat) (o : Nat) (a : Int32) (b : Nat) : Prop :=
  if o = 0 then yAt U b 0 a else if o = 1 then yAt U b 1 a else if o = 12 then yL12 P (Y 0) b (z 0) else if o = 13 then yL13 U a (Y 0) (Y 1) (Y 2) b (z 0) (z 1) (z 2)
  else if o = 14 then yL14 U a (Y 0) (Y 1) b (z 0) else if o = 15 then yL15 P U a (Y 0) b (z 0) else if o = 16 then yL16 U a (Y 0) (Y 1) b (z 0) (z 1)
  else if o = 17 then yL17 U a (Y 0) (Y 1) (Y 2) b (z 0) (z 1) (z 2) else yL2 P o (Y 0) (Y 1) b (z 0) (z 1)
def yLay (P : Nat → Nat → Prop) (U : yU) (O : Nat → Nat) (A : Nat → Int32) : Nat → Nat → Nat → Prop
  | 0, _, _ => False
  | k + 1, p, b => yLo P U (fun j c => yLay P U O A k (xIt (xNx O k) j (p + 1)) c) (fun j => xSz O k (xIt (xNx O k) j (p + 1))) (O p) (A p) b
/-! rows that agree at a place (but for a first at d, a second at c) -/
def yEq (c d : Nat) (σ τ : xQ) (i : Nat) : Prop := σ.2.1 i = τ.2.1 i ∧ σ.2.2.2.2.1 i = τ.2.2.2.2.1 i ∧ (i ≠ d → σ.2.2.1 i = τ.2.2.1 i) ∧ (i ≠ c → σ.2.2.2.1 i = τ.2.2.2.1 i)
def yAc (c d : Nat) (U : yU) (σ : xQ) (i : Nat) : Prop := U.1 i = (σ.2.1 i).toNatClampNeg ∧ U.2.2.2 i = σ.2.2.2.2.1 i ∧ (i ≠ d → U.2.1 i = σ.2.2.1 i) ∧ (i ≠ c → U.2.2.1 i = σ.2.2.2.1 i)
def yAg (U : yU) (σ : xQ) (i : Nat) : Prop := U.1 i = (σ.2.1 i).toNatClampNeg ∧ U.2.2.2 i = σ.2.2.2.2.1 i ∧ U.2.1 i = σ.2.2.1 i ∧ U.2.2.1 i = σ.2.2.2.1 i
def yEa (σ τ : xQ) (i : Nat) : Prop := σ.2.1 i = τ.2.1 i ∧ σ.2.2.2.2.1 i = τ.2.2.2.2.1 i ∧ σ.2.2.1 i = τ.2.2.1 i ∧ σ.2.2.2.1 i = τ.2.2.2.1 i
theorem yAc_eq {c d : Nat} {U : yU} {σ τ : xQ} {i : Nat} (h : yAc c d U σ i) (g : yEq c d σ τ i) : yAc c d U τ i := ⟨by rw [h.1, g.1], by rw [h.2.1, g.2.1], fun z => by rw [h.2.2.1 z, g.2.2.1 z], fun z => by rw [h.2.2.2 z, g.2.2.2 z]⟩
theorem yAc_ag {c d : Nat} {U : yU} {σ : xQ} {i : Nat} (h : yAc c d U σ i) (hc : i ≠ c) (hd : i ≠ d) : yAg U σ i := ⟨h.1, h.2.1, h.2.2.1 hd, h.2.2.2 hc⟩
theorem yAg_ac {c d : Nat} {U : yU} {σ : xQ} {i : Nat} (h : yAg U σ i) : yAc c d U σ i := ⟨h.1, h.2.1, fun _ => h.2.2.1, fun _ => h.2.2.2⟩
theorem yEa_eq {c d : Nat} {σ τ : xQ} {i : Nat} (h : yEa σ τ i) : yEq c d σ τ i := ⟨h.1, h.2.1, fun _ => h.2.2.1, fun _ => h.2.2.2⟩
theorem yEa_tr {σ τ ρ : xQ} {i : Nat} (h : yEa σ τ i) (g : yEa τ ρ i) : yEa σ ρ i := ⟨h.1.trans g.1, h.2.1.trans g.2.1, h.2.2.1.trans g.2.2.1, h.2.2.2.trans g.2.2.2⟩
theorem yEm_e {σ : xQ} {o i : Nat} {y : Int32} (h : i < σ.1) : yEa (xEm σ o y) σ i := ⟨pk_un (by omega), rfl, pk_un (by omega), pk_un (by omega)⟩
theorem yEt_e {σ : xQ} {o i : Nat} (h : i < σ.1) : yEa (xEt σ o) σ i := ⟨pk_un (by omega), pk_un (by omega), pk_un (by omega), pk_un (by omega)⟩
theorem yS1_e {σ : xQ} {q i : Nat} {y : Int32} (h : i ≠ q) : yEa (xS1 σ q y) σ i := ⟨rfl, rfl, pk_un h, rfl⟩
theorem yS2_e {σ : xQ} {q i : Nat} {y : Int32} (h : i ≠ q) : yEa (xS2 σ q y) σ i := ⟨rfl, rfl, rfl, pk_un h⟩
theorem yS1_q {c : Nat} {σ : xQ} {q i : Nat} {y : Int32} : yEq c q (xS1 σ q y) σ i := ⟨rfl, rfl, fun h => pk_un h, fun _ => rfl⟩
theorem yS2_q {d : Nat} {σ : xQ} {q i : Nat} {y : Int32} : yEq q d (xS2 σ q y) σ i := ⟨rfl, rfl, fun _ => rfl, fun h => pk_un h⟩
theorem ySh_e {σ : xQ} {i : Nat} {y : Int32} : yEa (xSh σ y) σ i := ⟨rfl, rfl, rfl, rfl⟩
theorem yEm_o {σ : xQ} {o : Nat} {y : Int32} (ho : o < 22) : ((xEm σ o y).2.1 σ.1).toNatClampNeg = o := by
  show (upd σ.2.1 σ.1 (nI o) σ.1).toNatClampNeg = o
  rw [pk_us]; exact nI_clamp (by omega)
theorem yEm_f {σ : xQ} {o : Nat} {y : Int32} : (xEm σ o y).2.2.1 σ.1 = y := pk_us
theorem yEt_t {σ : xQ} {o : Nat} : (xEt σ o).2.2.2.2.1 σ.1 = 1 := pk_us
theorem yAt_em {c d : Nat} {U : yU} {σ : xQ} {o i : Nat} {y : Int32} (ho : o < 22) (h : yAc c d U (xEm σ o y) i) (e : i = σ.1) (hd : i ≠ d) : yAt U i o y := by
  subst e
  exact ⟨by rw [h.1, yEm_o ho], by rw [h.2.2.1 hd, yEm_f]⟩
theorem yOp_em {c d : Nat} {U : yU} {σ : xQ} {o i : Nat} {y : Int32} (ho : o < 22) (h : yAc c d U (xEm σ o y) i) (e : i = σ.1) : U.1 i = o := by
  subst e
  rw [h.1, yEm_o ho]
theorem yFx_et {c d : Nat} {U : yU} {σ : xQ} {o i : Nat} (ho : o < 22) (h : yAc c d U (xEt σ o) i) (e : i = σ.1) : yFx U i o := by
  subst e
  refine ⟨?_, by rw [h.2.1, yEt_t]⟩
  rw [h.1]
  exact yEm_o (y := 0) ho
theorem yAg_ea {U : yU} {σ τ : xQ} {i : Nat} (h : yAg U σ i) (g : yEa σ τ i) : yAg U τ i := ⟨by rw [h.1, g.1], by rw [h.2.1, g.2.1], by rw [h.2.2.1, g.2.2.1], by rw [h.2.2.2, g.2.2.2]⟩
theorem zAt_em {U : yU} {σ : xQ} {o i : Nat} {y : Int32} (ho : o < 22) (h : yAg U (xEm σ o y) i) (e : i = σ.1) : yAt U i o y := by
  subst e
  exact ⟨by rw [h.1, yEm_o ho], by rw [h.2.2.1, yEm_f]⟩
theorem zFx_et {U : yU} {σ : xQ} {o i : Nat} (ho : o < 22) (h : yAg U (xEt σ o) i) (e : i = σ.1) : yFx U i o := yFx_et (c := 0) (d := 0) ho (yAg_ac h) e
theorem yH12k {F : Nat → xQ → xQ} {s z : Nat → Nat} {a : Int32} {σ : xQ} (hn : ∀ j τ, (F (s j) τ).1 = τ.1 + z j) (hk : ∀ j τ i, i < τ.1 → yEa (F (s j) τ) τ i) (i : Nat) (hi : i < σ.1) : yEa (xEm (F (s 0) σ) 12 0) σ i := by
  obtain ⟨t1, e1⟩ : ∃ t, t = F (s 0) σ := ⟨_, rfl⟩
  have n1 : t1.1 = σ.1 + z 0 := by rw [e1]; exact hn 0 σ
  obtain ⟨t2, e2⟩ : ∃ t, t = xEm t1 12 0 := ⟨_, rfl⟩
  have n2 : t2.1 = t1.1 + 1 := by rw [e2]; rfl
  have hW : xEm (F (s 0) σ) 12 0 = t2 := by rw [e2, e1]
  rw [hW]
  have k2 : yEa t2 t1 i := by rw [e2]; exact yEm_e (by omega)
  have k1 : yEa t1 σ i := by rw [e1]; exact hk _ _ _ (by omega)
  exact (yEa_tr k2 k1)
theorem yH12 {F : Nat → xQ → xQ} {s z : Nat → Nat} {a : Int32} {σ : xQ} {U : yU} {Y : Nat → Nat → Prop} (hn : ∀ j τ, (F (s j) τ).1 = τ.1 + z j) (hk : ∀ j τ i, i < τ.1 → yEa (F (s j) τ) τ i) {m : Nat} (hm : 1 ≤ m) (hY : ∀ j, j < m → ∀ τ, (∀ i, τ.1 ≤ i → i < τ.1 + z j → yAg U (F (s j) τ) i) → Y j τ.1) (hU : ∀ i, σ.1 ≤ i → i < (xEm (F (s 0) σ) 12 0).1 → yAg U (xEm (F (s 0) σ) 12 0) i) : yL12 (fun i o => U.1 i = o) (Y 0) σ.1 (z 0) := by
  obtain ⟨t1, e1⟩ : ∃ t, t = F (s 0) σ := ⟨_, rfl⟩
  have n1 : t1.1 = σ.1 + z 0 := by rw [e1]; exact hn 0 σ
  obtain ⟨t2, e2⟩ : ∃ t, t = xEm t1 12 0 := ⟨_, rfl⟩
  have n2 : t2.1 = t1.1 + 1 := by rw [e2]; rfl
  have hW : xEm (F (s 0) σ) 12 0 = t2 := by rw [e2, e1]
  rw [hW] at hU
  have A2 : ∀ i, σ.1 ≤ i → i < t2.1 → yAg U t2 i := hU
  have A1 : ∀ i, σ.1 ≤ i → i < t1.1 → yAg U t1 i := fun i h1 h2 => yAg_ea (A2 i h1 (by omega)) (by rw [e2]; exact yEm_e h2)
  have p0 : Y 0 (σ.1) := by
    have q := hY 0 (by omega) σ (fun i h1 h2 => by rw [← e1]; exact A1 i (by omega) (by omega))
    rw [show σ.1 = σ.1 by omega] at q; exact q
  have u : yAt U (σ.1 + z 0) 12 0 := zAt_em (by omega) (by rw [← e2]; exact A2 _ (by omega) (by omega)) (by omega)
  exact ⟨p0, u.1⟩
theorem yH2k {F : Nat → xQ → xQ} {s z : Nat → Nat} {a : Int32} {σ : xQ} (hn : ∀ j τ, (F (s j) τ).1 = τ.1 + z j) (hk : ∀ j τ i, i < τ.1 → yEa (F (s j) τ) τ i) {o : Nat} (ho : o < 22) (i : Nat) (hi : i < σ.1) : yEa (xEm (F (s 1) (F (s 0) σ)) o 0) σ i := by
  obtain ⟨t1, e1⟩ : ∃ t, t = F (s 0) σ := ⟨_, rfl⟩
  have n1 : t1.1 = σ.1 + z 0 := by rw [e1]; exact hn 0 σ
  obtain ⟨t2, e2⟩ : ∃ t, t = F (s 1) t1 := ⟨_, rfl⟩
  have n2 : t2.1 = t1.1 + z 1 := by rw [e2]; exact hn 1 t1
  obtain ⟨t3, e3⟩ : ∃ t, t = xEm t2 o 0 := ⟨_, rfl⟩
  have n3 : t3.1 = t2.1 + 1 := by rw [e3]; rfl
  have hW : xEm (F (s 1) (F (s 0) σ)) o 0 = t3 := by rw [e3, e2, e1]
  rw [hW]
  have k3 : yEa t3 t2 i := by rw [e3]; exact yEm_e (by omega)
  have k2 : yEa t2 t1 i := by rw [e2]; exact hk _ _ _ (by omega)
  have k1 : yEa t1 σ i := by rw [e1]; exact hk _ _ _ (by omega)
  exact (yEa_tr k3 (yEa_tr k2 k1))
theorem yH2 {F : Nat → xQ → xQ} {s z : Nat → Nat} {a : Int32} {σ : xQ} {U : yU} {Y : Nat → Nat → Prop} (hn : ∀ j τ, (F (s j) τ).1 = τ.1 + z j) (hk : ∀ j τ i, i < τ.1 → yEa (F (s j) τ) τ i) {o : Nat} (ho : o < 22) {m : Nat} (hm : 2 ≤ m) (hY : ∀ j, j < m → ∀ τ, (∀ i, τ.1 ≤ i → i < τ.1 + z j → yAg U (F (s j) τ) i) → Y j τ.1) (hU : ∀ i, σ.1 ≤ i → i < (xEm (F (s 1) (F (s 0) σ)) o 0).1 → yAg U (xEm (F (s 1) (F (s 0) σ)) o 0) i) : yL2 (fun i o => U.1 i = o) o (Y 0) (Y 1) σ.1 (z 0) (z 1) := by
  obtain ⟨t1, e1⟩ : ∃ t, t = F (s 0) σ := ⟨_, rfl⟩
  have n1 : t1.1 = σ.1 + z 0 := by rw [e1]; exact hn 0 σ
  obtain ⟨t2, e2⟩ : ∃ t, t = F (s 1) t1 := ⟨_, rfl⟩
  have n2 : t2.1 = t1.1 + z 1 := by rw [e2]; exact hn 1 t1
  obtain ⟨t3, e3⟩ : ∃ t, t = xEm t2 o 0 := ⟨_, rfl⟩
  have n3 : t3.1 = t2.1 + 1 := by rw [e3]; rfl
  have hW : xEm (F (s 1) (F (s 0) σ)) o 0 = t3 := by rw [e3, e2, e1]
  rw [hW] at hU
  have A3 : ∀ i, σ.1 ≤ i → i < t3.1 → yAg U t3 i := hU
  have A2 : ∀ i, σ.1 ≤ i → i < t2.1 → yAg U t2 i := fun i h1 h2 => yAg_ea (A3 i h1 (by omega)) (by rw [e3]; exact yEm_e h2)
  have A1 : ∀ i, σ.1 ≤ i → i < t1.1 → yAg U t1 i := fun i h1 h2 => yAg_ea (A2 i h1 (by omega)) (by rw [e2]; exact hk _ _ _ h2)
  have p0 : Y 0 (σ.1) := by
    have q := hY 0 (by omega) σ (fun i h1 h2 => by rw [← e1]; exact A1 i (by omega) (by omega))
    rw [show σ.1 = σ.1 by omega] at q; exact q
  have p1 : Y 1 (σ.1 + z 0) := by
    have q := hY 1 (by omega) t1 (fun i h1 h2 => by rw [← e2]; exact A2 i (by omega) (by omega))
    rw [show t1.1 = σ.1 + z 0 by omega] at q; exact q
  have u : yAt U (σ.1 + z 0 + z 1) o 0 := zAt_em (by omega) (by rw [← e3]; exact A3 _ (by omega) (by omega)) (by omega)
  exact ⟨p0, p1, u.1⟩
theorem yH14k {F : Nat → xQ → xQ} {s z : Nat → Nat} {a : Int32} {σ : xQ} (hn : ∀ j τ, (F (s j) τ).1 = τ.1 + z j) (hk : ∀ j τ i, i < τ.1 → yEa (F (s j) τ) τ i) (i : Nat) (hi : i < σ.1) : yEa (F (s 1) (xEm (F (s 0) σ) 13 a)) σ i := by
  obtain ⟨t1, e1⟩ : ∃ t, t = F (s 0) σ := ⟨_, rfl⟩
  have n1 : t1.1 = σ.1 + z 0 := by rw [e1]; exact hn 0 σ
  obtain ⟨t2, e2⟩ : ∃ t, t = xEm t1 13 a := ⟨_, rfl⟩
  have n2 : t2.1 = t1.1 + 1 := by rw [e2]; rfl
  obtain ⟨t3, e3⟩ : ∃ t, t = F (s 1) t2 := ⟨_, rfl⟩
  have n3 : t3.1 = t2.1 + z 1 := by rw [e3]; exact hn 1 t2
  have hW : F (s 1) (xEm (F (s 0) σ) 13 a) = t3 := by rw [e3, e2, e1]
  rw [hW]
  have k3 : yEa t3 t2 i := by rw [e3]; exact hk _ _ _ (by omega)
  have k2 : yEa t2 t1 i := by rw [e2]; exact yEm_e (by omega)
  have k1 : yEa t1 σ i := by rw [e1]; exact hk _ _ _ (by omega)
  exact (yEa_tr k3 (yEa_tr k2 k1))
theorem yH14 {F : Nat → xQ → xQ} {s z : Nat → Nat} {a : Int32} {σ : xQ} {U : yU} {Y : Nat → Nat → Prop} (hn : ∀ j τ, (F (s j) τ).1 = τ.1 + z j) (hk : ∀ j τ i, i < τ.1 → yEa (F (s j) τ) τ i) {m : Nat} (hm : 2 ≤ m) (hY : ∀ j, j < m → ∀ τ, (∀ i, τ.1 ≤ i → i < τ.1 + z j → yAg U (F (s j) τ) i) → Y j τ.1) (hU : ∀ i, σ.1 ≤ i → i < (F (s 1) (xEm (F (s 0) σ) 13 a)).1 → yAg U (F (s 1) (xEm (F (s 0) σ) 13 a)) i) : yL14 U a (Y 0) (Y 1) σ.1 (z 0) := by
  obtain ⟨t1, e1⟩ : ∃ t, t = F (s 0) σ := ⟨_, rfl⟩
  have n1 : t1.1 = σ.1 + z 0 := by rw [e1]; exact hn 0 σ
  obtain ⟨t2, e2⟩ : ∃ t, t = xEm t1 13 a := ⟨_, rfl⟩
  have n2 : t2.1 = t1.1 + 1 := by rw [e2]; rfl
  obtain ⟨t3, e3⟩ : ∃ t, t = F (s 1) t2 := ⟨_, rfl⟩
  have n3 : t3.1 = t2.1 + z 1 := by rw [e3]; exact hn 1 t2
  have hW : F (s 1) (xEm (F (s 0) σ) 13 a) = t3 := by rw [e3, e2, e1]
  rw [hW] at hU
  have A3 : ∀ i, σ.1 ≤ i → i < t3.1 → yAg U t3 i := hU
  have A2 : ∀ i, σ.1 ≤ i → i < t2.1 → yAg U t2 i := fun i h1 h2 => yAg_ea (A3 i h1 (by omega)) (by rw [e3]; exact hk _ _ _ h2)
  have A1 : ∀ i, σ.1 ≤ i → i < t1.1 → yAg U t1 i := fun i h1 h2 => yAg_ea (A2 i h1 (by omega)) (by rw [e2]; exact yEm_e h2)
  have p0 : Y 0 (σ.1) := by
    have q := hY 0 (by omega) σ (fun i h1 h2 => by rw [← e1]; exact A1 i (by omega) (by omega))
    rw [show σ.1 = σ.1 by omega] at q; exact q
  have u : yAt U (σ.1 + z 0) 13 a := zAt_em (by omega) (by rw [← e2]; exact A2 _ (by omega) (by omega)) (by omega)
  have p1 : Y 1 (σ.1 + z 0 + 1) := by
    have q := hY 1 (by omega) t2 (fun i h1 h2 => by rw [← e3]; exact A3 i (by omega) (by omega))
    rw [show t2.1 = σ.1 + z 0 + 1 by omega] at q; exact q
  exact ⟨p0, u, p1⟩
theorem yH15k {F : Nat → xQ → xQ} {s z : Nat → Nat} {a : Int32} {σ : xQ} (hn : ∀ j τ, (F (s j) τ).1 = τ.1 + z j) (hk : ∀ j τ i, i < τ.1 → yEa (F (s j) τ) τ i) (i : Nat) (hi : i < σ.1) : yEa (xEm (xEm (F (s 0) σ) 19 0) 13 a) σ i := by
  obtain ⟨t1, e1⟩ : ∃ t, t = F (s 0) σ := ⟨_, rfl⟩
  have n1 : t1.1 = σ.1 + z 0 := by rw [e1]; exact hn 0 σ
  obtain ⟨t2, e2⟩ : ∃ t, t = xEm t1 19 0 := ⟨_, rfl⟩
  have n2 : t2.1 = t1.1 + 1 := by rw [e2]; rfl
  obtain ⟨t3, e3⟩ : ∃ t, t = xEm t2 13 a := ⟨_, rfl⟩
  have n3 : t3.1 = t2.1 + 1 := by rw [e3]; rfl
  have hW : xEm (xEm (F (s 0) σ) 19 0) 13 a = t3 := by rw [e3, e2, e1]
  rw [hW]
  have k3 : yEa t3 t2 i := by rw [e3]; exact yEm_e (by omega)
  have k2 : yEa t2 t1 i := by rw [e2]; exact yEm_e (by omega)
  have k1 : yEa t1 σ i := by rw [e1]; exact hk _ _ _ (by omega)
  exact (yEa_tr k3 (yEa_tr k2 k1))
theorem yH15 {F : Nat → xQ → xQ} {s z : Nat → Nat} {a : Int32} {σ : xQ} {U : yU} {Y : Nat → Nat → Prop} (hn : ∀ j τ, (F (s j) τ).1 = τ.1 + z j) (hk : ∀ j τ i, i < τ.1 → yEa (F (s j) τ) τ i) {m : Nat} (hm : 1 ≤ m) (hY : ∀ j, j < m → ∀ τ, (∀ i, τ.1 ≤ i → i < τ.1 + z j → yAg U (F (s j) τ) i) → Y j τ.1) (hU : ∀ i, σ.1 ≤ i → i < (xEm (xEm (F (s 0) σ) 19 0) 13 a).1 → yAg U (xEm (xEm (F (s 0) σ) 19 0) 13 a) i) : yL15 (fun i o => U.1 i = o) U a (Y 0) σ.1 (z 0) := by
  obtain ⟨t1, e1⟩ : ∃ t, t = F (s 0) σ := ⟨_, rfl⟩
  have n1 : t1.1 = σ.1 + z 0 := by rw [e1]; exact hn 0 σ
  obtain ⟨t2, e2⟩ : ∃ t, t = xEm t1 19 0 := ⟨_, rfl⟩
  have n2 : t2.1 = t1.1 + 1 := by rw [e2]; rfl
  obtain ⟨t3, e3⟩ : ∃ t, t = xEm t2 13 a := ⟨_, rfl⟩
  have n3 : t3.1 = t2.1 + 1 := by rw [e3]; rfl
  have hW : xEm (xEm (F (s 0) σ) 19 0) 13 a = t3 := by rw [e3, e2, e1]
  rw [hW] at hU
  have A3 : ∀ i, σ.1 ≤ i → i < t3.1 → yAg U t3 i := hU
  have A2 : ∀ i, σ.1 ≤ i → i < t2.1 → yAg U t2 i := fun i h1 h2 => yAg_ea (A3 i h1 (by omega)) (by rw [e3]; exact yEm_e h2)
  have A1 : ∀ i, σ.1 ≤ i → i < t1.1 → yAg U t1 i := fun i h1 h2 => yAg_ea (A2 i h1 (by omega)) (by rw [e2]; exact yEm_e h2)
  have p0 : Y 0 (σ.1) := by
    have q := hY 0 (by omega) σ (fun i h1 h2 => by rw [← e1]; exact A1 i (by omega) (by omega))
    rw [show σ.1 = σ.1 by omega] at q; exact q
  have u : yAt U (σ.1 + z 0) 19 0 := zAt_em (by omega) (by rw [← e2]; exact A2 _ (by omega) (by omega)) (by omega)
  have v : yAt U (σ.1 + z 0 + 1) 13 a := zAt_em (by omega) (by rw [← e3]; exact A3 _ (by omega) (by omega)) (by omega)
  exact ⟨p0, u.1, v⟩
theorem yH17k {F : Nat → xQ → xQ} {s z : Nat → Nat} {a : Int32} {σ : xQ} (hn : ∀ j τ, (F (s j) τ).1 = τ.1 + z j) (hk : ∀ j τ i, i < τ.1 → yEa (F (s j) τ) τ i) (i : Nat) (hi : i < σ.1) : yEa (xEm (F (s 2) (F (s 1) (F (s 0) σ))) 16 a) σ i := by
  obtain ⟨t1, e1⟩ : ∃ t, t = F (s 0) σ := ⟨_, rfl⟩
  have n1 : t1.1 = σ.1 + z 0 := by rw [e1]; exact hn 0 σ
  obtain ⟨t2, e2⟩ : ∃ t, t = F (s 1) t1 := ⟨_, rfl⟩
  have n2 : t2.1 = t1.1 + z 1 := by rw [e2]; exact hn 1 t1
  obtain ⟨t3, e3⟩ : ∃ t, t = F (s 2) t2 := ⟨_, rfl⟩
  have n3 : t3.1 = t2.1 + z 2 := by rw [e3]; exact hn 2 t2
  obtain ⟨t4, e4⟩ : ∃ t, t = xEm t3 16 a := ⟨_, rfl⟩
  have n4 : t4.1 = t3.1 + 1 := by rw [e4]; rfl
  have hW : xEm (F (s 2) (F (s 1) (F (s 0) σ))) 16 a = t4 := by rw [e4, e3, e2, e1]
  rw [hW]
  have k4 : yEa t4 t3 i := by rw [e4]; exact yEm_e (by omega)
  have k3 : yEa t3 t2 i := by rw [e3]; exact hk _ _ _ (by omega)
  have k2 : yEa t2 t1 i := by rw [e2]; exact hk _ _ _ (by omega)
  have k1 : yEa t1 σ i := by rw [e1]; exact hk _ _ _ (by omega)
  exact (yEa_tr k4 (yEa_tr k3 (yEa_tr k2 k1)))
theorem yH17 {F : Nat → xQ → xQ} {s z : Nat → Nat} {a : Int32} {σ : xQ} {U : yU} {Y : Nat → Nat → Prop} (hn : ∀ j τ, (F (s j) τ).1 = τ.1 + z j) (hk : ∀ j τ i, i < τ.1 → yEa (F (s j) τ) τ i) {m : Nat} (hm : 3 ≤ m) (hY : ∀ j, j < m → ∀ τ, (∀ i, τ.1 ≤ i → i < τ.1 + z j → yAg U (F (s j) τ) i) → Y j τ.1) (hU : ∀ i, σ.1 ≤ i → i < (xEm (F (s 2) (F (s 1) (F (s 0) σ))) 16 a).1 → yAg U (xEm (F (s 2) (F (s 1) (F (s 0) σ))) 16 a) i) : yL17 U a (Y 0) (Y 1) (Y 2) σ.1 (z 0) (z 1) (z 2) := by
  obtain ⟨t1, e1⟩ : ∃ t, t = F (s 0) σ := ⟨_, rfl⟩
  have n1 : t1.1 = σ.1 + z 0 := by rw [e1]; exact hn 0 σ
  obtain ⟨t2, e2⟩ : ∃ t, t = F (s 1) t1 := ⟨_, rfl⟩
  have n2 : t2.1 = t1.1 + z 1 := by rw [e2]; exact hn 1 t1
  obtain ⟨t3, e3⟩ : ∃ t, t = F (s 2) t2 := ⟨_, rfl⟩
  have n3 : t3.1 = t2.1 + z 2 := by rw [e3]; exact hn 2 t2
  obtain ⟨t4, e4⟩ : ∃ t, t = xEm t3 16 a := ⟨_, rfl⟩
  have n4 : t4.1 = t3.1 + 1 := by rw [e4]; rfl
  have hW : xEm (F (s 2) (F (s 1) (F (s 0) σ))) 16 a = t4 := by rw [e4, e3, e2, e1]
  rw [hW] at hU
  have A4 : ∀ i, σ.1 ≤ i → i < t4.1 → yAg U t4 i := hU
  have A3 : ∀ i, σ.1 ≤ i → i < t3.1 → yAg U t3 i := fun i h1 h2 => yAg_ea (A4 i h1 (by omega)) (by rw [e4]; exact yEm_e h2)
  have A2 : ∀ i, σ.1 ≤ i → i < t2.1 → yAg U t2 i := fun i h1 h2 => yAg_ea (A3 i h1 (by omega)) (by rw [e3]; exact hk _ _ _ h2)
  have A1 : ∀ i, σ.1 ≤ i → i < t1.1 → yAg U t1 i := fun i h1 h2 => yAg_ea (A2 i h1 (by omega)) (by rw [e2]; exact hk _ _ _ h2)
  have p0 : Y 0 (σ.1) := by
    have q := hY 0 (by omega) σ (fun i h1 h2 => by rw [← e1]; exact A1 i (by omega) (by omega))
    rw [show σ.1 = σ.1 by omega] at q; exact q
  have p1 : Y 1 (σ.1 + z 0) := by
    have q := hY 1 (by omega) t1 (fun i h1 h2 => by rw [← e2]; exact A2 i (by omega) (by omega))
    rw [show t1.1 = σ.1 + z 0 by omega] at q; exact q
  have p2 : Y 2 (σ.1 + z 0 + z 1) := by
    have q := hY 2 (by omega) t2 (fun i h1 h2 => by rw [← e3]; exact A3 i (by omega) (by omega))
    rw [show t2.1 = σ.1 + z 0 + z 1 by omega] at q; exact q
  have u : yAt U (σ.1 + z 0 + z 1 + z 2) 16 a := zAt_em (by omega) (by rw [← e4]; exact A4 _ (by omega) (by omega)) (by omega)
  exact ⟨p0, p1, p2, u⟩
theorem yH13k {F : Nat → xQ → xQ} {s z : Nat → Nat} {a : Int32} {σ : xQ} (hn : ∀ j τ, (F (s j) τ).1 = τ.1 + z j) (hk : ∀ j τ i, i < τ.1 → yEa (F (s j) τ) τ i) (i : Nat) (hi : i < σ.1) : yEa (xEi F s a σ) σ i := by
  obtain ⟨t1, e1⟩ : ∃ t, t = F (s 0) σ := ⟨_, rfl⟩
  have n1 : t1.1 = σ.1 + z 0 := by rw [e1]; exact hn 0 σ
  obtain ⟨t2, e2⟩ : ∃ t, t = xEm t1 14 a := ⟨_, rfl⟩
  have n2 : t2.1 = t1.1 + 1 := by rw [e2]; rfl
  obtain ⟨t3, e3⟩ : ∃ t, t = F (s 1) t2 := ⟨_, rfl⟩
  have n3 : t3.1 = t2.1 + z 1 := by rw [e3]; exact hn 1 t2
  obtain ⟨t4, e4⟩ : ∃ t, t = xEm t3 15 0 := ⟨_, rfl⟩
  have n4 : t4.1 = t3.1 + 1 := by rw [e4]; rfl
  obtain ⟨t5, e5⟩ : ∃ t, t = xS2 t4 t1.1 (nI t4.1) := ⟨_, rfl⟩
  have n5 : t5.1 = t4.1 := by rw [e5]; rfl
  obtain ⟨t6, e6⟩ : ∃ t, t = xSh t5 t2.2.2.2.2.2.1 := ⟨_, rfl⟩
  have n6 : t6.1 = t5.1 := by rw [e6]; rfl
  obtain ⟨t7, e7⟩ : ∃ t, t = F (s 2) t6 := ⟨_, rfl⟩
  have n7 : t7.1 = t6.1 + z 2 := by rw [e7]; exact hn 2 t6
  obtain ⟨t8, e8⟩ : ∃ t, t = xS1 t7 t3.1 (nI t7.1) := ⟨_, rfl⟩
  have n8 : t8.1 = t7.1 := by rw [e8]; rfl
  have hW : xEi F s a σ = t8 := by rw [e8, e7, e6, e5, e4, e3, e2, e1]; rfl
  rw [hW]
  have k8 : yEa t8 t7 i := by rw [e8]; exact yS1_e (by omega)
  have k7 : yEa t7 t6 i := by rw [e7]; exact hk _ _ _ (by omega)
  have k6 : yEa t6 t5 i := by rw [e6]; exact ySh_e
  have k5 : yEa t5 t4 i := by rw [e5]; exact yS2_e (by omega)
  have k4 : yEa t4 t3 i := by rw [e4]; exact yEm_e (by omega)
  have k3 : yEa t3 t2 i := by rw [e3]; exact hk _ _ _ (by omega)
  have k2 : yEa t2 t1 i := by rw [e2]; exact yEm_e (by omega)
  have k1 : yEa t1 σ i := by rw [e1]; exact hk _ _ _ (by omega)
  exact (yEa_tr k8 (yEa_tr k7 (yEa_tr k6 (yEa_tr k5 (yEa_tr k4 (yEa_tr k3 (yEa_tr k2 k1)))))))
theorem yH13 {F : Nat → xQ → xQ} {s z : Nat → Nat} {a : Int32} {σ : xQ} {U : yU} {Y : Nat → Nat → Prop} (hn : ∀ j τ, (F (s j) τ).1 = τ.1 + z j) (hk : ∀ j τ i, i < τ.1 → yEa (F (s j) τ) τ i) {m : Nat} (hm : 3 ≤ m) (hY : ∀ j, j < m → ∀ τ, (∀ i, τ.1 ≤ i → i < τ.1 + z j → yAg U (F (s j) τ) i) → Y j τ.1) (hU : ∀ i, σ.1 ≤ i → i < (xEi F s a σ).1 → yAg U (xEi F s a σ) i) : yL13 U a (Y 0) (Y 1) (Y 2) σ.1 (z 0) (z 1) (z 2) := by
  obtain ⟨t1, e1⟩ : ∃ t, t = F (s 0) σ := ⟨_, rfl⟩
  have n1 : t1.1 = σ.1 + z 0 := by rw [e1]; exact hn 0 σ
  obtain ⟨t2, e2⟩ : ∃ t, t = xEm t1 14 a := ⟨_, rfl⟩
  have n2 : t2.1 = t1.1 + 1 := by rw [e2]; rfl
  obtain ⟨t3, e3⟩ : ∃ t, t = F (s 1) t2 := ⟨_, rfl⟩
  have n3 : t3.1 = t2.1 + z 1 := by rw [e3]; exact hn 1 t2
  obtain ⟨t4, e4⟩ : ∃ t, t = xEm t3 15 0 := ⟨_, rfl⟩
  have n4 : t4.1 = t3.1 + 1 := by rw [e4]; rfl
  obtain ⟨t5, e5⟩ : ∃ t, t = xS2 t4 t1.1 (nI t4.1) := ⟨_, rfl⟩
  have n5 : t5.1 = t4.1 := by rw [e5]; rfl
  obtain ⟨t6, e6⟩ : ∃ t, t = xSh t5 t2.2.2.2.2.2.1 := ⟨_, rfl⟩
  have n6 : t6.1 = t5.1 := by rw [e6]; rfl
  obtain ⟨t7, e7⟩ : ∃ t, t = F (s 2) t6 := ⟨_, rfl⟩
  have n7 : t7.1 = t6.1 + z 2 := by rw [e7]; exact hn 2 t6
  obtain ⟨t8, e8⟩ : ∃ t, t = xS1 t7 t3.1 (nI t7.1) := ⟨_, rfl⟩
  have n8 : t8.1 = t7.1 := by rw [e8]; rfl
  have hW : xEi F s a σ = t8 := by rw [e8, e7, e6, e5, e4, e3, e2, e1]; rfl
  rw [hW] at hU
  have A8 : ∀ i, σ.1 ≤ i → i < t8.1 → yAc t1.1 t3.1 U t8 i := fun i h1 h2 => yAg_ac (hU i h1 h2)
  have A7 : ∀ i, σ.1 ≤ i → i < t7.1 → yAc t1.1 t3.1 U t7 i := fun i h1 h2 => yAc_eq (A8 i h1 (by omega)) (by rw [e8]; exact yS1_q)
  have A6 : ∀ i, σ.1 ≤ i → i < t6.1 → yAc t1.1 t3.1 U t6 i := fun i h1 h2 => yAc_eq (A7 i h1 (by omega)) (by rw [e7]; exact yEa_eq (hk _ _ _ h2))
  have A5 : ∀ i, σ.1 ≤ i → i < t5.1 → yAc t1.1 t3.1 U t5 i := fun i h1 h2 => yAc_eq (A6 i h1 (by omega)) (by rw [e6]; exact yEa_eq (ySh_e))
  have A4 : ∀ i, σ.1 ≤ i → i < t4.1 → yAc t1.1 t3.1 U t4 i := fun i h1 h2 => yAc_eq (A5 i h1 (by omega)) (by rw [e5]; exact yS2_q)
  have A3 : ∀ i, σ.1 ≤ i → i < t3.1 → yAc t1.1 t3.1 U t3 i := fun i h1 h2 => yAc_eq (A4 i h1 (by omega)) (by rw [e4]; exact yEa_eq (yEm_e h2))
  have A2 : ∀ i, σ.1 ≤ i → i < t2.1 → yAc t1.1 t3.1 U t2 i := fun i h1 h2 => yAc_eq (A3 i h1 (by omega)) (by rw [e3]; exact yEa_eq (hk _ _ _ h2))
  have A1 : ∀ i, σ.1 ≤ i → i < t1.1 → yAc t1.1 t3.1 U t1 i := fun i h1 h2 => yAc_eq (A2 i h1 (by omega)) (by rw [e2]; exact yEa_eq (yEm_e h2))
  have p0 : Y 0 (σ.1) := by
    have q := hY 0 (by omega) σ (fun i h1 h2 => by rw [← e1]; exact yAc_ag (A1 i (by omega) (by omega)) (by omega) (by omega))
    rw [show σ.1 = σ.1 by omega] at q; exact q
  have u : yAt U (σ.1 + z 0) 14 a := yAt_em (by omega) (by rw [← e2]; exact A2 _ (by omega) (by omega)) (by omega) (by omega)
  have p1 : Y 1 (σ.1 + z 0 + 1) := by
    have q := hY 1 (by omega) t2 (fun i h1 h2 => by rw [← e3]; exact yAc_ag (A3 i (by omega) (by omega)) (by omega) (by omega))
    rw [show t2.1 = σ.1 + z 0 + 1 by omega] at q; exact q
  have p2 : Y 2 (σ.1 + z 0 + 1 + z 1 + 1) := by
    have q := hY 2 (by omega) t6 (fun i h1 h2 => by rw [← e7]; exact yAc_ag (A7 i (by omega) (by omega)) (by omega) (by omega))
    rw [show t6.1 = σ.1 + z 0 + 1 + z 1 + 1 by omega] at q; exact q
  have h8 := hU t3.1 (by omega) (by omega)
  have o3 : U.1 t3.1 = 15 := yOp_em (c := t1.1) (d := t3.1) (y := 0) (by omega) (by rw [← e4]; exact A4 _ (by omega) (by omega)) rfl
  have f3 : U.2.1 t3.1 = nI t7.1 := by rw [h8.2.2.1, e8]; exact pk_us
  have s1 : U.2.2.1 t1.1 = nI t4.1 := by
    have q := hU t1.1 (by omega) (by omega)
    rw [q.2.2.2, e8]
    show t7.2.2.2.1 t1.1 = _
    rw [e7, (hk 2 t6 t1.1 (by omega)).2.2.2, e6]
    show t5.2.2.2.1 t1.1 = _
    rw [e5]; exact pk_us
  rw [show t1.1 = σ.1 + z 0 by omega, show t4.1 = σ.1 + z 0 + 1 + z 1 + 1 by omega] at s1
  rw [show t3.1 = σ.1 + z 0 + 1 + z 1 by omega] at o3 f3
  rw [show t7.1 = σ.1 + z 0 + 1 + z 1 + 1 + z 2 by omega] at f3
  exact ⟨p0, u, s1, p1, ⟨o3, f3⟩, p2⟩
theorem yH16k {F : Nat → xQ → xQ} {s z : Nat → Nat} {a : Int32} {σ : xQ} (hn : ∀ j τ, (F (s j) τ).1 = τ.1 + z j) (hk : ∀ j τ i, i < τ.1 → yEa (F (s j) τ) τ i) (i : Nat) (hi : i < σ.1) : yEa (xEx F s a σ) σ i := by
  obtain ⟨t1, e1⟩ : ∃ t, t = F (s 0) σ := ⟨_, rfl⟩
  have n1 : t1.1 = σ.1 + z 0 := by rw [e1]; exact hn 0 σ
  obtain ⟨t2, e2⟩ : ∃ t, t = xEm t1 0 7 := ⟨_, rfl⟩
  have n2 : t2.1 = t1.1 + 1 := by rw [e2]; rfl
  obtain ⟨t3, e3⟩ : ∃ t, t = xEt t2 7 := ⟨_, rfl⟩
  have n3 : t3.1 = t2.1 + 1 := by rw [e3]; rfl
  obtain ⟨t4, e4⟩ : ∃ t, t = xEm t3 13 a := ⟨_, rfl⟩
  have n4 : t4.1 = t3.1 + 1 := by rw [e4]; rfl
  obtain ⟨t5, e5⟩ : ∃ t, t = xEm t4 1 a := ⟨_, rfl⟩
  have n5 : t5.1 = t4.1 + 1 := by rw [e5]; rfl
  obtain ⟨t6, e6⟩ : ∃ t, t = xEm t5 14 1 := ⟨_, rfl⟩
  have n6 : t6.1 = t5.1 + 1 := by rw [e6]; rfl
  obtain ⟨t7, e7⟩ : ∃ t, t = F (s 1) t6 := ⟨_, rfl⟩
  have n7 : t7.1 = t6.1 + z 1 := by rw [e7]; exact hn 1 t6
  obtain ⟨t8, e8⟩ : ∃ t, t = xEt t7 18 := ⟨_, rfl⟩
  have n8 : t8.1 = t7.1 + 1 := by rw [e8]; rfl
  obtain ⟨t9, e9⟩ : ∃ t, t = xEm t8 1 a := ⟨_, rfl⟩
  have n9 : t9.1 = t8.1 + 1 := by rw [e9]; rfl
  obtain ⟨t10, e10⟩ : ∃ t, t = xEm t9 0 1 := ⟨_, rfl⟩
  have n10 : t10.1 = t9.1 + 1 := by rw [e10]; rfl
  obtain ⟨t11, e11⟩ : ∃ t, t = xEt t10 3 := ⟨_, rfl⟩
  have n11 : t11.1 = t10.1 + 1 := by rw [e11]; rfl
  obtain ⟨t12, e12⟩ : ∃ t, t = xEm t11 13 a := ⟨_, rfl⟩
  have n12 : t12.1 = t11.1 + 1 := by rw [e12]; rfl
  obtain ⟨t13, e13⟩ : ∃ t, t = xEm t12 15 (nI t4.1) := ⟨_, rfl⟩
  have n13 : t13.1 = t12.1 + 1 := by rw [e13]; rfl
  obtain ⟨t14, e14⟩ : ∃ t, t = xS2 t13 t5.1 (nI t13.1) := ⟨_, rfl⟩
  have n14 : t14.1 = t13.1 := by rw [e14]; rfl
  obtain ⟨t15, e15⟩ : ∃ t, t = xEm t14 0 0 := ⟨_, rfl⟩
  have n15 : t15.1 = t14.1 + 1 := by rw [e15]; rfl
  have hW : xEx F s a σ = t15 := by rw [e15, e14, e13, e12, e11, e10, e9, e8, e7, e6, e5, e4, e3, e2, e1]; rfl
  rw [hW]
  have k15 : yEa t15 t14 i := by rw [e15]; exact yEm_e (by omega)
  have k14 : yEa t14 t13 i := by rw [e14]; exact yS2_e (by omega)
  have k13 : yEa t13 t12 i := by rw [e13]; exact yEm_e (by omega)
  have k12 : yEa t12 t11 i := by rw [e12]; exact yEm_e (by omega)
  have k11 : yEa t11 t10 i := by rw [e11]; exact yEt_e (by omega)
  have k10 : yEa t10 t9 i := by rw [e10]; exact yEm_e (by omega)
  have k9 : yEa t9 t8 i := by rw [e9]; exact yEm_e (by omega)
  have k8 : yEa t8 t7 i := by rw [e8]; exact yEt_e (by omega)
  have k7 : yEa t7 t6 i := by rw [e7]; exact hk _ _ _ (by omega)
  have k6 : yEa t6 t5 i := by rw [e6]; exact yEm_e (by omega)
  have k5 : yEa t5 t4 i := by rw [e5]; exact yEm_e (by omega)
  have k4 : yEa t4 t3 i := by rw [e4]; exact yEm_e (by omega)
  have k3 : yEa t3 t2 i := by rw [e3]; exact yEt_e (by omega)
  have k2 : yEa t2 t1 i := by rw [e2]; exact yEm_e (by omega)
  have k1 : yEa t1 σ i := by rw [e1]; exact hk _ _ _ (by omega)
  exact (yEa_tr k15 (yEa_tr k14 (yEa_tr k13 (yEa_tr k12 (yEa_tr k11 (yEa_tr k10 (yEa_tr k9 (yEa_tr k8 (yEa_tr k7 (yEa_tr k6 (yEa_tr k5 (yEa_tr k4 (yEa_tr k3 (yEa_tr k2 k1))))))))))))))
theorem yH16 {F : Nat → xQ → xQ} {s z : Nat → Nat} {a : Int32} {σ : xQ} {U : yU} {Y : Nat → Nat → Prop} (hn : ∀ j τ, (F (s j) τ).1 = τ.1 + z j) (hk : ∀ j τ i, i < τ.1 → yEa (F (s j) τ) τ i) {m : Nat} (hm : 2 ≤ m) (hY : ∀ j, j < m → ∀ τ, (∀ i, τ.1 ≤ i → i < τ.1 + z j → yAg U (F (s j) τ) i) → Y j τ.1) (hU : ∀ i, σ.1 ≤ i → i < (xEx F s a σ).1 → yAg U (xEx F s a σ) i) : yL16 U a (Y 0) (Y 1) σ.1 (z 0) (z 1) := by
  obtain ⟨t1, e1⟩ : ∃ t, t = F (s 0) σ := ⟨_, rfl⟩
  have n1 : t1.1 = σ.1 + z 0 := by rw [e1]; exact hn 0 σ
  obtain ⟨t2, e2⟩ : ∃ t, t = xEm t1 0 7 := ⟨_, rfl⟩
  have n2 : t2.1 = t1.1 + 1 := by rw [e2]; rfl
  obtain ⟨t3, e3⟩ : ∃ t, t = xEt t2 7 := ⟨_, rfl⟩
  have n3 : t3.1 = t2.1 + 1 := by rw [e3]; rfl
  obtain ⟨t4, e4⟩ : ∃ t, t = xEm t3 13 a := ⟨_, rfl⟩
  have n4 : t4.1 = t3.1 + 1 := by rw [e4]; rfl
  obtain ⟨t5, e5⟩ : ∃ t, t = xEm t4 1 a := ⟨_, rfl⟩
  have n5 : t5.1 = t4.1 + 1 := by rw [e5]; rfl
  obtain ⟨t6, e6⟩ : ∃ t, t = xEm t5 14 1 := ⟨_, rfl⟩
  have n6 : t6.1 = t5.1 + 1 := by rw [e6]; rfl
  obtain ⟨t7, e7⟩ : ∃ t, t = F (s 1) t6 := ⟨_, rfl⟩
  have n7 : t7.1 = t6.1 + z 1 := by rw [e7]; exact hn 1 t6
  obtain ⟨t8, e8⟩ : ∃ t, t = xEt t7 18 := ⟨_, rfl⟩
  have n8 : t8.1 = t7.1 + 1 := by rw [e8]; rfl
  obtain ⟨t9, e9⟩ : ∃ t, t = xEm t8 1 a := ⟨_, rfl⟩
  have n9 : t9.1 = t8.1 + 1 := by rw [e9]; rfl
  obtain ⟨t10, e10⟩ : ∃ t, t = xEm t9 0 1 := ⟨_, rfl⟩
  have n10 : t10.1 = t9.1 + 1 := by rw [e10]; rfl
  obtain ⟨t11, e11⟩ : ∃ t, t = xEt t10 3 := ⟨_, rfl⟩
  have n11 : t11.1 = t10.1 + 1 := by rw [e11]; rfl
  obtain ⟨t12, e12⟩ : ∃ t, t = xEm t11 13 a := ⟨_, rfl⟩
  have n12 : t12.1 = t11.1 + 1 := by rw [e12]; rfl
  obtain ⟨t13, e13⟩ : ∃ t, t = xEm t12 15 (nI t4.1) := ⟨_, rfl⟩
  have n13 : t13.1 = t12.1 + 1 := by rw [e13]; rfl
  obtain ⟨t14, e14⟩ : ∃ t, t = xS2 t13 t5.1 (nI t13.1) := ⟨_, rfl⟩
  have n14 : t14.1 = t13.1 := by rw [e14]; rfl
  obtain ⟨t15, e15⟩ : ∃ t, t = xEm t14 0 0 := ⟨_, rfl⟩
  have n15 : t15.1 = t14.1 + 1 := by rw [e15]; rfl
  have hW : xEx F s a σ = t15 := by rw [e15, e14, e13, e12, e11, e10, e9, e8, e7, e6, e5, e4, e3, e2, e1]; rfl
  rw [hW] at hU
  have A15 : ∀ i, σ.1 ≤ i → i < t15.1 → yAc t5.1 (t15.1 + 1) U t15 i := fun i h1 h2 => yAg_ac (hU i h1 h2)
  have A14 : ∀ i, σ.1 ≤ i → i < t14.1 → yAc t5.1 (t15.1 + 1) U t14 i := fun i h1 h2 => yAc_eq (A15 i h1 (by omega)) (by rw [e15]; exact yEa_eq (yEm_e h2))
  have A13 : ∀ i, σ.1 ≤ i → i < t13.1 → yAc t5.1 (t15.1 + 1) U t13 i := fun i h1 h2 => yAc_eq (A14 i h1 (by omega)) (by rw [e14]; exact yS2_q)
  have A12 : ∀ i, σ.1 ≤ i → i < t12.1 → yAc t5.1 (t15.1 + 1) U t12 i := fun i h1 h2 => yAc_eq (A13 i h1 (by omega)) (by rw [e13]; exact yEa_eq (yEm_e h2))
  have A11 : ∀ i, σ.1 ≤ i → i < t11.1 → yAc t5.1 (t15.1 + 1) U t11 i := fun i h1 h2 => yAc_eq (A12 i h1 (by omega)) (by rw [e12]; exact yEa_eq (yEm_e h2))
  have A10 : ∀ i, σ.1 ≤ i → i < t10.1 → yAc t5.1 (t15.1 + 1) U t10 i := fun i h1 h2 => yAc_eq (A11 i h1 (by omega)) (by rw [e11]; exact yEa_eq (yEt_e h2))
  have A9 : ∀ i, σ.1 ≤ i → i < t9.1 → yAc t5.1 (t15.1 + 1) U t9 i := fun i h1 h2 => yAc_eq (A10 i h1 (by omega)) (by rw [e10]; exact yEa_eq (yEm_e h2))
  have A8 : ∀ i, σ.1 ≤ i → i < t8.1 → yAc t5.1 (t15.1 + 1) U t8 i := fun i h1 h2 => yAc_eq (A9 i h1 (by omega)) (by rw [e9]; exact yEa_eq (yEm_e h2))
  have A7 : ∀ i, σ.1 ≤ i → i < t7.1 → yAc t5.1 (t15.1 + 1) U t7 i := fun i h1 h2 => yAc_eq (A8 i h1 (by omega)) (by rw [e8]; exact yEa_eq (yEt_e h2))
  have A6 : ∀ i, σ.1 ≤ i → i < t6.1 → yAc t5.1 (t15.1 + 1) U t6 i := fun i h1 h2 => yAc_eq (A7 i h1 (by omega)) (by rw [e7]; exact yEa_eq (hk _ _ _ h2))
  have A5 : ∀ i, σ.1 ≤ i → i < t5.1 → yAc t5.1 (t15.1 + 1) U t5 i := fun i h1 h2 => yAc_eq (A6 i h1 (by omega)) (by rw [e6]; exact yEa_eq (yEm_e h2))
  have A4 : ∀ i, σ.1 ≤ i → i < t4.1 → yAc t5.1 (t15.1 + 1) U t4 i := fun i h1 h2 => yAc_eq (A5 i h1 (by omega)) (by rw [e5]; exact yEa_eq (yEm_e h2))
  have A3 : ∀ i, σ.1 ≤ i → i < t3.1 → yAc t5.1 (t15.1 + 1) U t3 i := fun i h1 h2 => yAc_eq (A4 i h1 (by omega)) (by rw [e4]; exact yEa_eq (yEm_e h2))
  have A2 : ∀ i, σ.1 ≤ i → i < t2.1 → yAc t5.1 (t15.1 + 1) U t2 i := fun i h1 h2 => yAc_eq (A3 i h1 (by omega)) (by rw [e3]; exact yEa_eq (yEt_e h2))
  have A1 : ∀ i, σ.1 ≤ i → i < t1.1 → yAc t5.1 (t15.1 + 1) U t1 i := fun i h1 h2 => yAc_eq (A2 i h1 (by omega)) (by rw [e2]; exact yEa_eq (yEm_e h2))
  have p0 : Y 0 (σ.1) := by
    have q := hY 0 (by omega) σ (fun i h1 h2 => by rw [← e1]; exact yAc_ag (A1 i (by omega) (by omega)) (by omega) (by omega))
    rw [show σ.1 = σ.1 by omega] at q; exact q
  have u0 : yAt U (σ.1 + z 0) 0 7 := yAt_em (by omega) (by rw [← e2]; exact A2 _ (by omega) (by omega)) (by omega) (by omega)
  have u1 : yFx U (σ.1 + z 0 + 1) 7 := yFx_et (by omega) (by rw [← e3]; exact A3 _ (by omega) (by omega)) (by omega)
  have u2 : yAt U (σ.1 + z 0 + 2) 13 a := yAt_em (by omega) (by rw [← e4]; exact A4 _ (by omega) (by omega)) (by omega) (by omega)
  have u3 : yAt U (σ.1 + z 0 + 3) 1 a := yAt_em (by omega) (by rw [← e5]; exact A5 _ (by omega) (by omega)) (by omega) (by omega)
  have u4 : yAt U (σ.1 + z 0 + 4) 14 1 := yAt_em (by omega) (by rw [← e6]; exact A6 _ (by omega) (by omega)) (by omega) (by omega)
  have p1 : Y 1 (σ.1 + z 0 + 5) := by
    have q := hY 1 (by omega) t6 (fun i h1 h2 => by rw [← e7]; exact yAc_ag (A7 i (by omega) (by omega)) (by omega) (by omega))
    rw [show t6.1 = σ.1 + z 0 + 5 by omega] at q; exact q
  have v0 : yFx U (σ.1 + z 0 + 5 + z 1) 18 := yFx_et (by omega) (by rw [← e8]; exact A8 _ (by omega) (by omega)) (by omega)
  have v1 : yAt U (σ.1 + z 0 + 5 + z 1 + 1) 1 a := yAt_em (by omega) (by rw [← e9]; exact A9 _ (by omega) (by omega)) (by omega) (by omega)
  have v2 : yAt U (σ.1 + z 0 + 5 + z 1 + 2) 0 1 := yAt_em (by omega) (by rw [← e10]; exact A10 _ (by omega) (by omega)) (by omega) (by omega)
  have v3 : yFx U (σ.1 + z 0 + 5 + z 1 + 3) 3 := yFx_et (by omega) (by rw [← e11]; exact A11 _ (by omega) (by omega)) (by omega)
  have v4 : yAt U (σ.1 + z 0 + 5 + z 1 + 4) 13 a := yAt_em (by omega) (by rw [← e12]; exact A12 _ (by omega) (by omega)) (by omega) (by omega)
  have v5 : yAt U (σ.1 + z 0 + 5 + z 1 + 5) 15 (nI t4.1) := yAt_em (by omega) (by rw [← e13]; exact A13 _ (by omega) (by omega)) (by omega) (by omega)
  have v6 : yAt U (σ.1 + z 0 + 5 + z 1 + 6) 0 0 := yAt_em (by omega) (by rw [← e15]; exact A15 _ (by omega) (by omega)) (by omega) (by omega)
  have s5 : U.2.2.1 t5.1 = nI t13.1 := by
    have q := hU t5.1 (by omega) (by omega)
    rw [q.2.2.2, e15, (yEm_e (by omega : t5.1 < t14.1)).2.2.2, e14]; exact pk_us
  rw [show t5.1 = σ.1 + z 0 + 4 by omega, show t13.1 = σ.1 + z 0 + 5 + z 1 + 6 by omega] at s5
  rw [show t4.1 = σ.1 + z 0 + 3 by omega] at v5
  exact ⟨p0, u0, u1, u2, u3, ⟨u4, s5⟩, p1, v0, v1, v2, v3, v4, v5, v6⟩
theorem yEp_k {F : Nat → xQ → xQ} {s z : Nat → Nat} {σ : xQ} (hn : ∀ j τ, (F (s j) τ).1 = τ.1 + z j) (hk : ∀ j τ i, i < τ.1 → yEa (F (s j) τ) τ i) : ∀ (m i : Nat), i < σ.1 → yEa (xEp F s m σ) σ i := by
  intro m
  induction m with
  | zero => intro i _; exact ⟨rfl, rfl, rfl, rfl⟩
  | succ m ih =>
    intro i hi
    have h1 := xEp_n (s := s) (z := z) (σ := σ) hn m
    exact yEa_tr (hk m (xEp F s m σ) i (by omega)) (ih i hi)
theorem yEo_k {F : Nat → xQ → xQ} {s z : Nat → Nat} {a : Int32} {σ : xQ} {o : Nat} (hn : ∀ j τ, (F (s j) τ).1 = τ.1 + z j) (hk : ∀ j τ i, i < τ.1 → yEa (F (s j) τ) τ i) (i : Nat) (hi : i < σ.1) : yEa (xEo F s o a σ) σ i := by
  have hp := xEp_n (s := s) (z := z) (σ := σ) hn (xPa o)
  have hq := yEp_k (s := s) (z := z) (σ := σ) hn hk (xPa o) i hi
  unfold xEo
  by_cases h0 : o = 0
  · rw [if_pos h0]; exact yEm_e hi
  rw [if_neg h0]
  by_cases h1 : o = 1
  · rw [if_pos h1]; exact yEm_e hi
  rw [if_neg h1]
  by_cases h13 : o = 13
  · rw [if_pos h13]; exact yH13k hn hk i hi
  rw [if_neg h13]
  by_cases h14 : o = 14
  · rw [if_pos h14]; exact yH14k hn hk i hi
  rw [if_neg h14]
  by_cases h15 : o = 15
  · rw [if_pos h15]; exact yH15k hn hk i hi
  rw [if_neg h15]
  by_cases h16 : o = 16
  · rw [if_pos h16]; exact yH16k hn hk i hi
  rw [if_neg h16]
  by_cases h17 : o = 17
  · rw [if_pos h17]; exact yEa_tr (yEm_e (by omega)) hq
  rw [if_neg h17]
  exact yEa_tr (yEm_e (by omega)) hq
theorem yEmF_k {O : Nat → Nat} {A : Nat → Int32} : ∀ (k p : Nat) (σ : xQ) (i : Nat), i < σ.1 → yEa (xEmF O A k p σ) σ i := by
  intro k
  induction k with
  | zero => intro p σ i _; exact ⟨rfl, rfl, rfl, rfl⟩
  | succ k ih =>
    intro p σ i hi
    exact yEo_k (z := fun j => xSz O k (xIt (xNx O k) j (p + 1))) (fun j τ => xEmF_n k _ τ) (fun j τ i hi => ih _ τ i hi) i hi
theorem yLo_of {F : Nat → xQ → xQ} {s z : Nat → Nat} {a : Int32} {σ : xQ} {U : yU} {Y : Nat → Nat → Prop} {o : Nat} (ho : o < 18) (hn : ∀ j τ, (F (s j) τ).1 = τ.1 + z j) (hk : ∀ j τ i, i < τ.1 → yEa (F (s j) τ) τ i) (hY : ∀ j, j < xPa o → ∀ τ, (∀ i, τ.1 ≤ i → i < τ.1 + z j → yAg U (F (s j) τ) i) → Y j τ.1) (hU : ∀ i, σ.1 ≤ i → i < (xEo F s o a σ).1 → yAg U (xEo F s o a σ) i) : yLo (fun i o => U.1 i = o) U Y z o a σ.1 := by
  unfold xEo at hU
  unfold yLo
  by_cases h0 : o = 0
  · rw [if_pos h0] at hU ⊢
    exact zAt_em (by omega) (hU σ.1 (Nat.le_refl _) (Nat.lt_succ_self _)) rfl
  rw [if_neg h0] at hU ⊢
  by_cases h1 : o = 1
  · rw [if_pos h1] at hU ⊢
    exact zAt_em (by omega) (hU σ.1 (Nat.le_refl _) (Nat.lt_succ_self _)) rfl
  rw [if_neg h1] at hU ⊢
  by_cases h12 : o = 12
  · rw [if_pos h12]
    subst h12
    exact yH12 (a := 0) hn hk (m := 1) (by omega) hY hU
  rw [if_neg h12]
  by_cases h13 : o = 13
  · rw [if_pos h13] at hU ⊢
    subst h13
    exact yH13 hn hk (m := 3) (by omega) hY hU
  rw [if_neg h13] at hU ⊢
  by_cases h14 : o = 14
  · rw [if_pos h14] at hU ⊢
    subst h14
    exact yH14 hn hk (m := 2) (by omega) hY hU
  rw [if_neg h14] at hU ⊢
  by_cases h15 : o = 15
  · rw [if_pos h15] at hU ⊢
    subst h15
    exact yH15 hn hk (m := 1) (by omega) hY hU
  rw [if_neg h15] at hU ⊢
  by_cases h16 : o = 16
  · rw [if_pos h16] at hU ⊢
    subst h16
    exact yH16 hn hk (m := 2) (by omega) hY hU
  rw [if_neg h16] at hU ⊢
  by_cases h17 : o = 17
  · rw [if_pos h17] at hU ⊢
    subst h17
    exact yH17 hn hk (m := 3) (by omega) hY hU
  rw [if_neg h17] at hU ⊢
  have hp : xPa o = 2 := by
    have : ∀ o, o < 18 → (o ≠ 0 ∧ o ≠ 1 ∧ o ≠ 13 ∧ o ≠ 15 ∧ o ≠ 17 ∧ o ≠ 12) → xPa o = 2 := by decide +kernel
    exact this o ho ⟨h0, h1, h13, h15, h17, h12⟩
  rw [hp] at hU hY
  exact yH2 (a := 0) hn hk (by omega) (m := 2) (by omega) hY hU
/-- what is emitted for a form lies so -/
theorem yEmit {O : Nat → Nat} {A : Nat → Int32} {n : Nat} {U : yU} (hO : ∀ p, p < n → O p < 18) : ∀ (k p : Nat) (σ : xQ), xVF O n k p → (∀ i, σ.1 ≤ i → i < σ.1 + xSz O k p → yAg U (xEmF O A k p σ) i) → yLay (fun i o => U.1 i = o) U O A k p σ.1 := by
  intro k
  induction k with
  | zero => intro p σ hv; exact absurd hv id
  | succ k ih =>
    intro p σ hv hU
    refine yLo_of (F := xEmF O A k) (s := fun j => xIt (xNx O k) j (p + 1)) (hO p hv.1) (fun j τ => xEmF_n k _ τ) (fun j τ i hi => yEmF_k k _ τ i hi) (fun j hj τ h => ih _ τ (hv.2 j hj) h) (fun i h1 h2 => hU i h1 ?_)
    have e := xEmF_n (O := O) (A := A) (k + 1) p σ
    rw [← e]
    exact h2

