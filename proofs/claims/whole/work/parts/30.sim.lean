/-! ===== the class and the reference side by side ===== -/
def lwN (md : Nat → Int32) (kn : Nat → Int64) (dr : Nat → Int32) (mn : Nat → Nat) : Prop :=
  (∀ k : Nat, k < 8 → md k = nI (mn k) ∧ mn k ≤ 40) ∧ (∀ k : Nat, k < 8 → ∀ j : Nat, j < mn k → (dr (40 * k + j) = 0 ↔ f_kb (kn k) j = true)) ∧
  (∀ k : Nat, k < 8 → ∀ j : Nat, mn k ≤ j → f_kb (kn k) j = false) ∧ (∀ k : Nat, k < 8 → ∀ j : Nat, mn k ≤ j → j < 40 → dr (40 * k + j) = 0)
def lwC (sz : Nat → Int32) (vs : Nat → Nat → Int64) (va : Nat → Int64) (ns : Nat → Nat) : Prop :=
  (∀ k : Nat, k < 4 → sz k = nI (ns k) ∧ ns k ≤ 100) ∧ (∀ k : Nat, k < 4 → ∀ j : Nat, j < ns k → va (100 * k + j) = vs k j)
def lwG (fl : Nat → Int32) : Prop := ∀ k : Nat, k < 12 → fl k = 0 ∨ fl k = 1 ∨ fl k = 2 ∨ fl k = 3 ∨ fl k = 4 ∨ fl k = 5
def lwJ (rg : Nat → Int64) (z q : Nat) (xrg : Nat → Int64) (xz xq : Nat) (lg : Nat → Int64) : Prop :=
  (z ≤ 64 ∧ q < 64 ∧ xz ≤ 64 ∧ xq < 64) ∧ (∀ j : Nat, j < z → lg j = rg (f_ix q z j)) ∧ (∀ j : Nat, j < xz → lg (64 + j) = xrg (f_ix xq xz j))
theorem lw_bit : ∀ j, j < 40 → ∀ i, (f_bit (nI (j + 1))).toBitVec.getLsbD i = decide (i = j ∧ j < 64) := by
  intro j hj i
  rw [f_bitj j hj, BitVec.getLsbD_twoPow]
  by_cases h : i = j
  · subst h; simp
  · have h1 : ¬ j = i := fun h9 => h h9.symm
    simp [h, h1]
theorem lw_or {x : Int64} {j i : Nat} (hj : j < 40) : f_kb (x ||| f_bit (nI (j + 1))) i = (f_kb x i || decide (i = j)) := by
  unfold f_kb
  rw [Int64.toBitVec_or, BitVec.getLsbD_or, lw_bit j hj]
  by_cases h : i = j
  · have h1 : j < 64 := by omega
    simp [h, h1]
  · simp [h]
theorem lw_m1 : ∀ i, i < 64 → (-1 : Int64).toBitVec.getLsbD i = true := by decide +kernel
theorem lw_and {x : Int64} {j i : Nat} (hj : j < 40) : f_kb (x &&& (f_bit (nI (j + 1)) ^^^ (-1))) i = (f_kb x i && !decide (i = j)) := by
  unfold f_kb
  rw [Int64.toBitVec_and, BitVec.getLsbD_and, Int64.toBitVec_xor, BitVec.getLsbD_xor, lw_bit j hj]
  rcases Nat.lt_or_ge i 64 with h64 | h64
  · rw [lw_m1 i h64]
    by_cases h : i = j
    · have h1 : j < 64 := by omega
      simp [h, h1]
    · simp [h]
  · rw [BitVec.getLsbD_of_ge _ _ h64]
    simp
theorem lw_made {md : Nat → Int32} {kn : Nat → Int64} {dr : Nat → Int32} {mn : Nat → Nat} {k : Nat} (h : lwN md kn dr mn) (hk : k < 8) (hf : md k < 40) :
    ∃ mn' : Nat → Nat, lwN (upd md k (md k + 1)) (vp_updL kn k (kn k ||| f_bit (md k + 1))) dr mn' := by
  obtain ⟨h1, h2, h3, h4⟩ := h
  obtain ⟨hM, hM4⟩ := h1 k hk
  have hlt : mn k < 40 := by
    rw [hM] at hf
    exact (nI_ltI (b := 40) (by omega) (by decide)).mp hf
  refine ⟨fun i => if i = k then mn k + 1 else mn i, ?_, ?_, ?_, ?_⟩
  · intro i hi
    unfold upd
    by_cases e : i = k
    · simp only [if_pos e]
      rw [hM, nI_1]
      exact ⟨rfl, by omega⟩
    · simp only [if_neg e]
      exact h1 i hi
  · intro i hi j hj
    unfold vp_updL
    by_cases e : i = k
    · simp only [if_pos e] at hj ⊢
      subst e
      rw [hM, nI_1, lw_or hlt]
      by_cases e2 : j = mn i
      · subst e2
        simp [h4 i hi (mn i) (Nat.le_refl _) hlt]
      · rw [h2 i hi j (by omega)]
        simp [e2]
    · simp only [if_neg e] at hj ⊢
      exact h2 i hi j hj
  · intro i hi j hj
    unfold vp_updL
    by_cases e : i = k
    · simp only [if_pos e] at hj ⊢
      subst e
      rw [hM, nI_1, lw_or hlt, h3 i hi j (by omega)]
      simp
      omega
    · simp only [if_neg e] at hj ⊢
      exact h3 i hi j hj
  · intro i hi j hj hj4
    by_cases e : i = k
    · simp only [if_pos e] at hj
      subst e
      exact h4 i hi j (by omega) hj4
    · simp only [if_neg e] at hj
      exact h4 i hi j hj hj4
theorem lw_mk {md : Nat → Int32} {kn : Nat → Int64} {dr : Nat → Int32} {mn : Nat → Nat} (h : lwN md kn dr mn) (x : Int32) : ∃ mn' : Nat → Nat, lwN (f_mkM md x) (f_mkK md kn x) dr mn' := by
  rcases f_mks md x with h0 | ⟨k, hk, rfl, h1⟩ | ⟨k, hk, rfl, h1⟩
  · have e1 : f_mk md x = 1 := if_pos h0
    have e2 : ¬ f_mk md x = 0 := by rw [e1]; decide
    rw [show f_mkM md x = md from if_neg e2, show f_mkK md kn x = kn from if_neg e2]
    exact ⟨mn, h⟩
  · have e1 := f_mk0 hk h1
    rw [show f_mkM md (nI k) = upd md k (md k + 1) by unfold f_mkM; rw [if_pos e1, nI_clamp (by omega)], show f_mkK md kn (nI k) = vp_updL kn k (kn k ||| f_bit (md k + 1)) by unfold f_mkK; rw [if_pos e1, nI_clamp (by omega)]]
    exact lw_made h hk h1
  · have e1 := f_mk2 hk h1
    have e2 : ¬ f_mk md (nI k) = 0 := by rw [e1]; decide
    rw [show f_mkM md (nI k) = md from if_neg e2, show f_mkK md kn (nI k) = kn from if_neg e2]
    exact ⟨mn, h⟩
theorem lw_dr {md : Nat → Int32} {kn : Nat → Int64} {dr : Nat → Int32} {mn : Nat → Nat} (h : lwN md kn dr mn) (x n : Int32) : lwN md (f_drK md kn x n) (f_drD md kn dr x n) mn := by
  by_cases e0 : f_dr md kn x n = 0
  · rw [show f_drK md kn x n = kn from if_pos e0, show f_drD md kn dr x n = dr from if_pos e0]
    exact h
  · rcases f_isKind_or x with h0 | ⟨k, hk, rfl⟩
    · exact absurd (if_pos h0) e0
    · have e1 : ¬ f_isKnown md kn k n = 0 := by
        unfold f_dr at e0
        rw [if_neg (by rw [f_isKind_nI hk]; decide), nI_clamp (by omega)] at e0
        exact e0
      obtain ⟨h1, h2, h3, h4⟩ := h
      obtain ⟨hM, hM4⟩ := h1 k hk
      obtain ⟨j, hj, rfl⟩ := f_known_j hM hM4 e1
      rw [show f_drK md kn (nI k) (nI (j + 1)) = vp_updL kn k (kn k &&& (f_bit (nI (j + 1)) ^^^ (-1))) by unfold f_drK; rw [if_neg e0, nI_clamp (by omega)],
        show f_drD md kn dr (nI k) (nI (j + 1)) = upd dr (40 * k + j) 1 by unfold f_drD; rw [if_neg e0, nI_clamp (n := k) (by omega), nI_clamp (n := j + 1) (by omega)]; rfl]
      refine ⟨h1, ?_, ?_, ?_⟩
      · intro i hi j' hj'
        obtain ⟨-, hi4⟩ := h1 i hi
        unfold vp_updL upd
        by_cases e : i = k
        · subst e
          simp only [if_true]
          rw [lw_and (by omega)]
          by_cases e2 : j' = j
          · subst e2
            simp
          · rw [if_neg (by omega), h2 i hi j' hj']
            simp [e2]
        · rw [if_neg e, if_neg (by omega)]
          exact h2 i hi j' hj'
      · intro i hi j' hj'
        unfold vp_updL
        by_cases e : i = k
        · subst e
          simp only [if_true]
          rw [lw_and (by omega), h3 i hi j' hj']
          rfl
        · rw [if_neg e]
          exact h3 i hi j' hj'
      · intro i hi j' hj' hj4
        obtain ⟨-, hi4⟩ := h1 i hi
        unfold upd
        rw [if_neg (by
          by_cases e : i = k
          · subst e; omega
          · omega)]
        exact h4 i hi j' hj' hj4
theorem lw_fl {fl : Nat → Int32} (h : lwG fl) (x g : Int32) : lwG (f_flF fl x g) := by
  unfold f_flF
  by_cases e : f_fok x g = 0
  · rw [if_pos e]; exact h
  · rw [if_neg e]
    intro k hk
    unfold upd
    by_cases e1 : k = x.toNatClampNeg
    · rw [if_pos e1]
      unfold f_fok at e
      by_cases a1 : f_isPart x = 0
      · rw [if_pos a1] at e; exact absurd rfl e
      · rw [if_neg a1] at e
        by_cases a2 : g < 0
        · rw [if_pos a2] at e; exact absurd rfl e
        · rw [if_neg a2] at e
          by_cases a3 : g ≤ 5
          · obtain ⟨j, hj, rfl⟩ := f_range (n := 6) (by decide) a2 (fun h9 => by
              rw [Int32.le_iff_toInt_le] at h9 a3
              have e5 : (5 : Int32).toInt = 5 := by decide
              have e6 : (nI 6).toInt = 6 := by decide
              omega)
            rcases (show j = 0 ∨ j = 1 ∨ j = 2 ∨ j = 3 ∨ j = 4 ∨ j = 5 by omega) with rfl | rfl | rfl | rfl | rfl | rfl
            · exact Or.inl rfl
            · exact Or.inr (Or.inl rfl)
            · exact Or.inr (Or.inr (Or.inl rfl))
            · exact Or.inr (Or.inr (Or.inr (Or.inl rfl)))
            · exact Or.inr (Or.inr (Or.inr (Or.inr (Or.inl rfl))))
            · exact Or.inr (Or.inr (Or.inr (Or.inr (Or.inr rfl))))
          · rw [if_neg a3] at e; exact absurd rfl e
    · rw [if_neg e1]; exact h k hk
theorem lw_aF {fl : Nat → Int32} {md : Nat → Int32} {kn : Nat → Int64} (h : lwG fl) (x n : Int32) : lwG (f_aF md kn fl x n) := by
  unfold f_aF
  by_cases e : f_cd md kn x n = 0
  · rw [if_pos e]
    intro k hk
    unfold upd
    by_cases e1 : k = x.toNatClampNeg
    · rw [if_pos e1]; exact Or.inl rfl
    · rw [if_neg e1]; exact h k hk
  · rw [if_neg e]; exact h
theorem lw_wrA {rg xrg lg : Nat → Int64} {z q xz xq : Nat} (h : lwJ rg z q xrg xz xq lg) (v : Int64) : lwJ (vp_updL rg q v) (f_js z) ((q + 1) % 64) xrg xz xq (f_wr lg z v 0) := by
  obtain ⟨⟨hz, hq, hxz, hxq⟩, h1, h2⟩ := h
  refine ⟨⟨f_js_le hz, Nat.mod_lt _ (by decide), hxz, hxq⟩, ?_, ?_⟩
  · intro j hj
    unfold f_wr
    by_cases e : z = 64
    · subst e
      rw [if_pos rfl]
      have hj64 : j < 64 := hj
      unfold vp_updL
      by_cases e1 : j = 0 + 63
      · rw [if_pos e1, if_pos]
        unfold f_ix f_js
        rw [if_neg (by omega)]
        omega
      · rw [if_neg e1, if_neg]
        · unfold f_shf
          rw [if_pos (by omega), h1 (j + 1) (by omega)]
          congr 1
          unfold f_ix f_js
          rw [if_neg (by omega)]
          omega
        · unfold f_ix f_js
          rw [if_neg (by omega)]
          omega
    · rw [if_neg e]
      have ejs : f_js z = z + 1 := if_pos (by omega)
      rw [ejs] at hj ⊢
      unfold vp_updL
      by_cases e1 : j = 0 + z
      · rw [if_pos e1, if_pos]
        unfold f_ix
        omega
      · rw [if_neg e1, if_neg]
        · rw [h1 j (by omega)]
          congr 1
          unfold f_ix
          omega
        · unfold f_ix
          omega
  · intro j hj
    rw [← h2 j hj]
    unfold f_wr
    by_cases e : z = 64
    · rw [if_pos e]
      unfold vp_updL f_shf
      rw [if_neg (by omega), if_neg (by omega)]
    · rw [if_neg e]
      unfold vp_updL
      rw [if_neg (by omega)]
theorem lw_wrB {rg xrg lg : Nat → Int64} {z q xz xq : Nat} (h : lwJ rg z q xrg xz xq lg) (v : Int64) : lwJ rg z q (vp_updL xrg xq v) (f_js xz) ((xq + 1) % 64) (f_wr lg xz v 64) := by
  obtain ⟨⟨hz, hq, hxz, hxq⟩, h1, h2⟩ := h
  refine ⟨⟨hz, hq, f_js_le hxz, Nat.mod_lt _ (by decide)⟩, ?_, ?_⟩
  · intro j hj
    rw [← h1 j hj]
    unfold f_wr
    by_cases e : xz = 64
    · rw [if_pos e]
      unfold vp_updL f_shf
      rw [if_neg (by omega), if_neg (by omega)]
    · rw [if_neg e]
      unfold vp_updL
      rw [if_neg (by omega)]
  · intro j hj
    unfold f_wr
    by_cases e : xz = 64
    · subst e
      rw [if_pos rfl]
      have hj64 : j < 64 := hj
      unfold vp_updL
      by_cases e1 : 64 + j = 64 + 63
      · rw [if_pos e1, if_pos]
        unfold f_ix f_js
        rw [if_neg (by omega)]
        omega
      · rw [if_neg e1, if_neg]
        · unfold f_shf
          rw [if_pos (by omega), show 64 + j + 1 = 64 + (j + 1) by omega, h2 (j + 1) (by omega)]
          congr 1
          unfold f_ix f_js
          rw [if_neg (by omega)]
          omega
        · unfold f_ix f_js
          rw [if_neg (by omega)]
          omega
    · rw [if_neg e]
      have ejs : f_js xz = xz + 1 := if_pos (by omega)
      rw [ejs] at hj ⊢
      unfold vp_updL
      by_cases e1 : 64 + j = 64 + xz
      · rw [if_pos e1, if_pos]
        unfold f_ix
        omega
      · rw [if_neg e1, if_neg]
        · rw [h2 j (by omega)]
          congr 1
          unfold f_ix
          omega
        · unfold f_ix
          omega
theorem lw_co {sz : Nat → Int32} {vs : Nat → Nat → Int64} {va : Nat → Int64} {ns : Nat → Nat} (h : lwC sz vs va ns) (x : Int32) (v : Int64) : ∃ ns' : Nat → Nat, lwC (f_coZ sz x v) (f_coV sz vs x v) (f_coW sz va x v) ns' := by
  by_cases e : f_cc sz x v = 4
  · rw [show f_coZ sz x v = sz from if_pos e, show f_coV sz vs x v = vs from if_pos e, show f_coW sz va x v = va from if_pos e]
    exact ⟨ns, h⟩
  · obtain ⟨h1, h2⟩ := h
    have hk : f_cc sz x v < 4 ∧ f_cfull sz (f_cc sz x v) = 0 := by
      revert e
      unfold f_cc
      by_cases a1 : x < 0
      · rw [if_pos a1]; exact fun h9 => absurd rfl h9
      · rw [if_neg a1]
        by_cases a2 : 4 ≤ x
        · rw [if_pos a2]; exact fun h9 => absurd rfl h9
        · rw [if_neg a2]
          obtain ⟨k, hk, rfl⟩ := f_range (n := 4) (by decide) a1 a2
          by_cases a3 : f_can (nI k).toNatClampNeg v = 0
          · rw [if_pos a3]; exact fun h9 => absurd rfl h9
          · rw [if_neg a3]
            by_cases a4 : f_cfull sz (nI k).toNatClampNeg = 0
            · rw [if_pos a4]
              intro _
              rw [nI_clamp (by omega)] at a4 ⊢
              exact ⟨hk, a4⟩
            · rw [if_neg a4]; exact fun h9 => absurd rfl h9
    rw [show f_coZ sz x v = upd sz (f_cc sz x v) (sz (f_cc sz x v) + 1) from if_neg e, show f_coV sz vs x v = f_up vs (f_cc sz x v) (sz (f_cc sz x v)).toNatClampNeg v from if_neg e, show f_coW sz va x v = vp_updL va (100 * f_cc sz x v + (sz (f_cc sz x v)).toNatClampNeg) v from if_neg e]
    generalize f_cc sz x v = k at hk ⊢
    obtain ⟨hk, hf⟩ := hk
    obtain ⟨hs, hn⟩ := h1 k hk
    have hlt : ns k < 100 := f_notfull hs hn hf
    rw [hs, nI_clamp (by omega)]
    refine ⟨fun i => if i = k then ns k + 1 else ns i, ?_, ?_⟩
    · intro i hi
      unfold upd
      by_cases e1 : i = k
      · simp only [if_pos e1]
        rw [nI_1]
        exact ⟨rfl, by omega⟩
      · simp only [if_neg e1]
        exact h1 i hi
    · intro i hi j hj
      unfold vp_updL f_up
      by_cases e1 : i = k
      · subst e1
        simp only [if_true] at hj ⊢
        unfold vp_updL
        by_cases e2 : j = ns i
        · subst e2
          rw [if_pos rfl, if_pos rfl]
        · rw [if_neg (by omega), if_neg e2]
          exact h2 i hi j (by omega)
      · simp only [if_neg e1] at hj ⊢
        obtain ⟨-, hi1⟩ := h1 i hi
        rw [if_neg (by omega)]
        exact h2 i hi j hj
theorem lw_coN {md : Nat → Int32} {kn : Nat → Int64} {dr sz : Nat → Int32} {mn : Nat → Nat} (h : lwN md kn dr mn) (x : Int32) (v : Int64) : ∃ mn' : Nat → Nat, lwN (f_coM md sz x v) (f_coK md kn sz x v) dr mn' := by
  unfold f_coM f_coK
  by_cases e : f_cc sz x v = 3
  · rw [if_pos e, if_pos e]
    have hc : ¬ f_can3 v = 0 := by
      intro h9
      revert e
      unfold f_cc
      by_cases a1 : x < 0
      · rw [if_pos a1]; decide
      · rw [if_neg a1]
        by_cases a2 : 4 ≤ x
        · rw [if_pos a2]; decide
        · rw [if_neg a2]
          obtain ⟨k, hk, rfl⟩ := f_range (n := 4) (by decide) a1 a2
          rw [nI_clamp (by omega)]
          by_cases a3 : f_can k v = 0
          · rw [if_pos a3]; decide
          · rw [if_neg a3]
            by_cases a4 : f_cfull sz k = 0
            · rw [if_pos a4]
              intro e3
              subst e3
              exact a3 h9
            · rw [if_neg a4]; decide
    obtain ⟨j, hj, hv⟩ := f_can3_j hc
    rw [hv, nI_clamp (by omega)]
    unfold f_tM f_tK
    by_cases e2 : md j < 40
    · rw [if_pos e2, if_pos e2]
      exact lw_made h hj e2
    · rw [if_neg e2, if_neg e2]
      exact ⟨mn, h⟩
  · rw [if_neg e, if_neg e]
    exact ⟨mn, h⟩
