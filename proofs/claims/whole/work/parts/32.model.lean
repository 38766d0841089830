/-! 32.model: the reference's state. A field of TaskShareModel by its number; S f i: element i of the array in field f; S f 0: the number in field f -/
abbrev mS : Type := Nat → Int → Int
def sU (S : mS) (f : Nat) (i v : Int) : mS := fun g j => if g = f ∧ j = i then v else S g j
theorem sU_same {S : mS} {f : Nat} {i v : Int} : sU S f i v f i = v := if_pos ⟨rfl, rfl⟩
theorem sU_i {S : mS} {f : Nat} {i v j : Int} (h : j ≠ i) : sU S f i v f j = S f j := if_neg (fun z => h z.2)
theorem sU_f {S : mS} {f g : Nat} {i v j : Int} (h : g ≠ f) : sU S f i v g j = S g j := if_neg (fun z => h z.1)
def mLen (f : Nat) : Nat := if f < 12 then 4 else if f < 21 then 16 else if f = 24 then 128 else if f = 25 then 640 else 5
abbrev mArr (f : Nat) : Prop := 4 ≤ f ∧ f < 30 ∧ f ≠ 21 ∧ f ≠ 23
abbrev mSc (f : Nat) : Prop := f < 4 ∨ f = 21 ∨ f = 23
def mKd (f : Nat) : Nat := if f = 10 then 102 else 100
/-- at m lies the reference in state S, its arrays at A -/
def mR (E : jx_E) (S : mS) (w : jx_W) (m : Nat) (A : Nat → Nat) : Prop :=
  jx_k w m = 6 ∧ E.1.heap.size ≤ m ∧ (∀ f, mSc f → jx_v w m f = .int (iI (S f 0))) ∧
  (∀ f, mArr f → jx_v w m f = .ref (A f) ∧ jx_k w (A f) = mKd f ∧ jx_l w (A f) = mLen f ∧ E.1.heap.size ≤ A f ∧ ∀ i : Nat, i < mLen f → jx_v w (A f) i = .int (iI (S f i))) ∧
  ∀ f g, mArr f → mArr g → A f = A g → f = g
/-- nothing but the reference's own cells has changed -/
def mF (m : Nat) (A : Nat → Nat) (w w' : jx_W) : Prop := jx_n w' = jx_n w ∧ jx_c w' = jx_c w ∧ jx_s w' = jx_s w ∧ jx_k w' = jx_k w ∧ jx_l w' = jx_l w ∧ ∀ b, b ≠ m → (∀ f, mArr f → b ≠ A f) → jx_v w' b = jx_v w b
theorem mF.rf {m : Nat} {A : Nat → Nat} {w : jx_W} : mF m A w w := ⟨rfl, rfl, rfl, rfl, rfl, fun _ _ _ => rfl⟩
theorem mF.tr {m : Nat} {A : Nat → Nat} {w w1 w2 : jx_W} (h : mF m A w w1) (h2 : mF m A w1 w2) : mF m A w w2 :=
  ⟨h2.1.trans h.1, h2.2.1.trans h.2.1, h2.2.2.1.trans h.2.2.1, h2.2.2.2.1.trans h.2.2.2.1, h2.2.2.2.2.1.trans h.2.2.2.2.1, fun b h1 h3 => (h2.2.2.2.2.2 b h1 h3).trans (h.2.2.2.2.2 b h1 h3)⟩
section MR
variable {E : jx_E} {S : mS} {w : jx_W} {m : Nat} {A : Nat → Nat}
theorem mR.sc (h : mR E S w m A) (f : Nat) (hf : mSc f) : jx_v w m f = .int (iI (S f 0)) := h.2.2.1 f hf
theorem mR.ar (h : mR E S w m A) (f : Nat) (hf : mArr f) : jx_v w m f = .ref (A f) := (h.2.2.2.1 f hf).1
theorem mR.el (h : mR E S w m A) {f : Nat} {i : Int} (hf : mArr f) (hi : 0 ≤ i ∧ i < (mLen f : Int)) : jx_v w (A f) i.toNat = .int (iI (S f i)) := by
  have h1 := (h.2.2.2.1 f hf).2.2.2.2 i.toNat (by omega)
  rw [Int.toNat_of_nonneg hi.1] at h1
  exact h1
theorem mR.ne (h : mR E S w m A) {f : Nat} (hf : mArr f) : A f ≠ m := by
  intro z
  have h1 := (h.2.2.2.1 f hf).2.1
  rw [z, h.1] at h1
  unfold mKd at h1
  split at h1 <;> omega
theorem mR.put (h : mR E S w m A) {f : Nat} {i v : Int} (hf : mArr f) (hi : 0 ≤ i ∧ i < (mLen f : Int)) : mR E (sU S f i v) (jx_put w (A f) i.toNat (.int (iI v))) m A := by
  obtain ⟨h1, h2, h3, h4, h5⟩ := id h
  refine ⟨h1, h2, fun g hg => ?_, fun g hg => ?_, h5⟩
  · have e : g ≠ f := by omega
    rw [sU_f e, ← h3 g hg]
    show (if m = A f ∧ g = i.toNat then _ else jx_v w m g) = _
    rw [if_neg (fun z => (h.ne hf) z.1.symm)]
  · obtain ⟨k1, k2, k3, k4, k5⟩ := h4 g hg
    refine ⟨?_, k2, k3, k4, fun j hj => ?_⟩
    · rw [← k1]
      show (if m = A f ∧ g = i.toNat then _ else jx_v w m g) = _
      rw [if_neg (fun z => (h.ne hf) z.1.symm)]
    · show (if A g = A f ∧ j = i.toNat then .int (iI v) else jx_v w (A g) j) = _
      by_cases e : g = f
      · subst e
        by_cases ej : j = i.toNat
        · rw [if_pos ⟨rfl, ej⟩]
          have : (j : Int) = i := by omega
          rw [this, sU_same]
        · rw [if_neg (fun z => ej z.2), k5 j hj, sU_i (by omega)]
      · rw [if_neg (fun z => e (h5 g f hg hf z.1)), k5 j hj, sU_f e]
theorem mR.putS (h : mR E S w m A) {f : Nat} {v : Int} (hf : mSc f) : mR E (sU S f 0 v) (jx_put w m f (.int (iI v))) m A := by
  obtain ⟨h1, h2, h3, h4, h5⟩ := id h
  refine ⟨h1, h2, fun g hg => ?_, fun g hg => ?_, h5⟩
  · show (if m = m ∧ g = f then .int (iI v) else jx_v w m g) = _
    by_cases e : g = f
    · subst e
      rw [if_pos ⟨rfl, rfl⟩, sU_same]
    · rw [if_neg (fun z => e z.2), h3 g hg, sU_f e]
  · obtain ⟨k1, k2, k3, k4, k5⟩ := h4 g hg
    have e : g ≠ f := by omega
    refine ⟨?_, k2, k3, k4, fun j hj => ?_⟩
    · show (if m = m ∧ g = f then .int (iI v) else jx_v w m g) = _
      rw [if_neg (fun z => e z.2), k1]
    · show (if A g = m ∧ j = f then .int (iI v) else jx_v w (A g) j) = _
      rw [if_neg (fun z => (h.ne hg) z.1), k5 j hj, sU_f e]
theorem mF_put {f : Nat} {j : Nat} {v : Value} (hf : mArr f) : mF m A w (jx_put w (A f) j v) := by
  refine ⟨rfl, rfl, rfl, rfl, rfl, fun b h1 h2 => ?_⟩
  funext i
  show (if b = A f ∧ i = j then v else jx_v w b i) = _
  rw [if_neg (fun z => h2 f hf z.1)]
theorem mF_putS {f : Nat} {v : Value} : mF m A w (jx_put w m f v) := by
  refine ⟨rfl, rfl, rfl, rfl, rfl, fun b h1 h2 => ?_⟩
  funext i
  show (if b = m ∧ i = f then v else jx_v w b i) = _
  rw [if_neg (fun z => h1 z.1)]
variable {l : Launch} {Y : jx_Y} {d : Nat} {Q : jx_R → jx_W → Prop} {pc : Nat} {L : List (Option Value)} {st : List Value}
theorem mx_sc {idx : Nat} (f : Nat) (hd : decode Y.2.2.1 pc = .ok (.getfield idx, 3)) (hF : jx_F E Y.1 idx 5 f) (hM : mR E S w m A) (hf : mSc f) (K : jx_G E l Y d Q (pc + 3) L (.int (iI (S f 0)) :: st) w) : jx_G E l Y d Q pc L (.ref m :: st) w := jx_getv hd hF hM.1 (hM.sc f hf) K
theorem mx_ar {idx : Nat} (f : Nat) (hd : decode Y.2.2.1 pc = .ok (.getfield idx, 3)) (hF : jx_F E Y.1 idx 5 f) (hM : mR E S w m A) (hf : mArr f) (K : jx_G E l Y d Q (pc + 3) L (.ref (A f) :: st) w) : jx_G E l Y d Q pc L (.ref m :: st) w := jx_getv hd hF hM.1 (hM.ar f hf) K
theorem mx_ld {f n : Nat} {i : Int} (hd : decode Y.2.2.1 pc = .ok (.iaload, 1)) (hM : mR E S w m A) (hf : mArr f ∧ f ≠ 10) (hn : mLen f = n) (hi : 0 ≤ i ∧ i < (n : Int)) (K : jx_G E l Y d Q (pc + 1) L (.int (iI (S f i)) :: st) w) : jx_G E l Y d Q pc L (.int (iI i) :: .ref (A f) :: st) w := by
  subst hn
  obtain ⟨k1, k2, k3, k4, k5⟩ := hM.2.2.2.1 f hf.1
  refine jI_iald hd (by rw [k2]; unfold mKd; rw [if_neg hf.2]) k3 ?_ hi (hM.el hf.1 hi) K
  unfold mLen
  (repeat' split) <;> omega
theorem mx_zld {i : Int} (hd : decode Y.2.2.1 pc = .ok (.baload, 1)) (hM : mR E S w m A) (hi : 0 ≤ i ∧ i < 4) (K : jx_G E l Y d Q (pc + 1) L (.int (iI (S 10 i)) :: st) w) : jx_G E l Y d Q pc L (.int (iI i) :: .ref (A 10) :: st) w := by
  obtain ⟨k1, k2, k3, k4, k5⟩ := hM.2.2.2.1 10 (by decide)
  exact jI_zald hd k2 k3 (by decide) hi (hM.el (f := 10) (by decide) hi) K
theorem mx_st {f n : Nat} {i v : Int} (hd : decode Y.2.2.1 pc = .ok (.iastore, 1)) (hM : mR E S w m A) (hf : mArr f ∧ f ≠ 10) (hn : mLen f = n) (hi : 0 ≤ i ∧ i < (n : Int)) (K : ∀ w', mR E (sU S f i v) w' m A → mF m A w w' → jx_G E l Y d Q (pc + 1) L st w') : jx_G E l Y d Q pc L (.int (iI v) :: .int (iI i) :: .ref (A f) :: st) w := by
  subst hn
  obtain ⟨k1, k2, k3, k4, k5⟩ := hM.2.2.2.1 f hf.1
  refine jI_iast hd (by rw [k2]; unfold mKd; rw [if_neg hf.2]) k3 ?_ hi k4 (K _ (hM.put hf.1 hi) (mF_put hf.1))
  unfold mLen
  (repeat' split) <;> omega
theorem mx_zst {i v : Int} (hd : decode Y.2.2.1 pc = .ok (.bastore, 1)) (hM : mR E S w m A) (hi : 0 ≤ i ∧ i < 4) (hv : v = 0 ∨ v = 1) (K : ∀ w', mR E (sU S 10 i v) w' m A → mF m A w w' → jx_G E l Y d Q (pc + 1) L st w') : jx_G E l Y d Q pc L (.int (iI v) :: .int (iI i) :: .ref (A 10) :: st) w := by
  obtain ⟨k1, k2, k3, k4, k5⟩ := hM.2.2.2.1 10 (by decide)
  exact jI_zast hd k2 k3 (by decide) hi k4 (jI_bool hv) (K _ (hM.put (f := 10) (by decide) hi) (mF_put (f := 10) (by decide)))
theorem mx_psc {idx f : Nat} {v : Int} (hd : decode Y.2.2.1 pc = .ok (.putfield idx, 3)) (hF : jx_F E Y.1 idx 5 f) (hT : jx_Ft E 5 f .int false) (hM : mR E S w m A) (hf : mSc f) (K : ∀ w', mR E (sU S f 0 v) w' m A → mF m A w w' → jx_G E l Y d Q (pc + 3) L st w') : jx_G E l Y d Q pc L (.int (iI v) :: .ref m :: st) w :=
  jx_putf hd hF hT hM.1 hM.2.1 rfl rfl (K _ (hM.putS hf) mF_putS)
theorem mx_pz {idx : Nat} {v : Int} (hd : decode Y.2.2.1 pc = .ok (.putfield idx, 3)) (hF : jx_F E Y.1 idx 5 21) (hT : jx_Ft E 5 21 .boolean false) (hM : mR E S w m A) (hv : v = 0 ∨ v = 1) (K : ∀ w', mR E (sU S 21 0 v) w' m A → mF m A w w' → jx_G E l Y d Q (pc + 3) L st w') : jx_G E l Y d Q pc L (.int (iI v) :: .ref m :: st) w :=
  jx_putf hd hF hT hM.1 hM.2.1 (jI_bool hv) (by rcases hv with rfl | rfl <;> rfl) (K _ (hM.putS (f := 21) (by decide)) mF_putS)
end MR
