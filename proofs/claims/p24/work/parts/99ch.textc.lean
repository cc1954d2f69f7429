/-! ## Pure: the whole text as lines, 3 (written by gen99cf.py) -/
theorem pn_1 {F G p : Nat} {sp : Option Nat} {b q s m : Nat} (hF : F ≤ 6) (hG : G ≤ 8) (hp : p < 6) (h1 : ∀ g, sp = some g → g < G) (h2 : b < F) (h4 : q < 5) (h5 : s < 120) (h6 : m < 30) : ∃ x tl, LNE x (pT p F (sp, b, 1, q, s, m)) ((53, nmV 112 p) :: (mbV b F 1 ++ tl)) ∧ (lnI x).length ≤ 31 ∧ (tl = [] ∨ ∃ g v sm, tl = (63, nmV 103 g) :: (sm ++ [(65, v)]) ∧ g < G ∧ (∀ x ∈ sm, smE F G x) ∧ (sm.any fun x => decide (x.1 = 19)) = false) := by
  have hm : ∀ k, (b + k) % F < 10 := fun k => by have := Nat.mod_lt (b + k) (show 0 < F by omega); omega
  cases sp with
  | none =>
    have e := ln_P1_5 (p := p) (F := F) (b := b) (s := s) (m := m) (q := q) (by omega) (by omega) hF (by omega) (hm 0)
    exact ⟨_, _, e.1, e.2, .inl rfl⟩
  | some g =>
    have hg := h1 g rfl
    rcases (show q = 0 ∨ q = 1 ∨ q = 2 ∨ q = 3 ∨ q = 4 by omega) with rfl | rfl | rfl | rfl | rfl
    · have e := ln_P1_0 (p := p) (F := F) (b := b) (g := g) (s := s) (m := m) (by omega) (by omega) hF (by omega) (by omega) (by omega) (by omega) (hm 0)
      exact ⟨_, _, e.1, e.2, .inr ⟨g, s, [(41, s)], rfl, hg, (smA_c (sm_o (by decide)) smA_n), rfl⟩⟩
    · have e := ln_P1_1 (p := p) (F := F) (b := b) (g := g) (s := s) (m := m) (by omega) (by omega) hF (by omega) (by omega) (by omega) (by omega) (hm 0)
      exact ⟨_, _, e.1, e.2, .inr ⟨g, 0, [(2, nmV 103 g), (41, 2), (34, 0), (41, (s % 30)), (31, 0)], rfl, hg, (smA_c (sm_g (by decide) (by assumption)) (smA_c (sm_o (by decide)) (smA_c (sm_o (by decide)) (smA_c (sm_o (by decide)) (smA_c (sm_o (by decide)) smA_n))))), rfl⟩⟩
    · have e := ln_P1_2 (p := p) (F := F) (b := b) (g := g) (s := s) (m := m) (by omega) (by omega) hF (by omega) (by omega) (by omega) (by omega) (hm 0)
      exact ⟨_, _, e.1, e.2, .inr ⟨g, 0, [(41, s), (15, 0), (41, m), (33, 0), (24, 0)], rfl, hg, (smA_c (sm_o (by decide)) (smA_c (sm_o (by decide)) (smA_c (sm_o (by decide)) (smA_c (sm_o (by decide)) (smA_c (sm_o (by decide)) smA_n))))), rfl⟩⟩
    · have e := ln_P1_3 (p := p) (F := F) (b := b) (g := g) (s := s) (m := m) (by omega) (by omega) hF (by omega) (by omega) (by omega) (by omega) (hm 0)
      exact ⟨_, _, e.1, e.2, .inr ⟨g, s, [(41, s), (16, nmV 102 b), (32, 0)], rfl, hg, (smA_c (sm_o (by decide)) (smA_c (sm_f (by decide) (by assumption)) (smA_c (sm_o (by decide)) smA_n))), rfl⟩⟩
    · have e := ln_P1_4 (p := p) (F := F) (b := b) (g := g) (s := s) (m := m) (by omega) (by omega) hF (by omega) (by omega) (by omega) (by omega) (hm 0)
      exact ⟨_, _, e.1, e.2, .inr ⟨g, 0, [(41, s), (41, 99999), (33, 0), (41, 99999), (33, 0), (15, 0), (41, 3), (32, 0), (34, 0)], rfl, hg, (smA_c (sm_o (by decide)) (smA_c (sm_o (by decide)) (smA_c (sm_o (by decide)) (smA_c (sm_o (by decide)) (smA_c (sm_o (by decide)) (smA_c (sm_o (by decide)) (smA_c (sm_o (by decide)) (smA_c (sm_o (by decide)) (smA_c (sm_o (by decide)) smA_n))))))))), rfl⟩⟩
theorem pn_2 {F G p : Nat} {sp : Option Nat} {b q s m : Nat} (hF : F ≤ 6) (hG : G ≤ 8) (hp : p < 6) (h1 : ∀ g, sp = some g → g < G) (h2 : b < F) (h4 : q < 5) (h5 : s < 120) (h6 : m < 30) : ∃ x tl, LNE x (pT p F (sp, b, 2, q, s, m)) ((53, nmV 112 p) :: (mbV b F 2 ++ tl)) ∧ (lnI x).length ≤ 31 ∧ (tl = [] ∨ ∃ g v sm, tl = (63, nmV 103 g) :: (sm ++ [(65, v)]) ∧ g < G ∧ (∀ x ∈ sm, smE F G x) ∧ (sm.any fun x => decide (x.1 = 19)) = false) := by
  have hm : ∀ k, (b + k) % F < 10 := fun k => by have := Nat.mod_lt (b + k) (show 0 < F by omega); omega
  cases sp with
  | none =>
    have e := ln_P2_5 (p := p) (F := F) (b := b) (s := s) (m := m) (q := q) (by omega) (by omega) hF (by omega) (hm 0) (hm 1)
    exact ⟨_, _, e.1, e.2, .inl rfl⟩
  | some g =>
    have hg := h1 g rfl
    rcases (show q = 0 ∨ q = 1 ∨ q = 2 ∨ q = 3 ∨ q = 4 by omega) with rfl | rfl | rfl | rfl | rfl
    · have e := ln_P2_0 (p := p) (F := F) (b := b) (g := g) (s := s) (m := m) (by omega) (by omega) hF (by omega) (by omega) (by omega) (by omega) (hm 0) (hm 1)
      exact ⟨_, _, e.1, e.2, .inr ⟨g, s, [(41, s)], rfl, hg, (smA_c (sm_o (by decide)) smA_n), rfl⟩⟩
    · have e := ln_P2_1 (p := p) (F := F) (b := b) (g := g) (s := s) (m := m) (by omega) (by omega) hF (by omega) (by omega) (by omega) (by omega) (hm 0) (hm 1)
      exact ⟨_, _, e.1, e.2, .inr ⟨g, 0, [(2, nmV 103 g), (41, 2), (34, 0), (41, (s % 30)), (31, 0)], rfl, hg, (smA_c (sm_g (by decide) (by assumption)) (smA_c (sm_o (by decide)) (smA_c (sm_o (by decide)) (smA_c (sm_o (by decide)) (smA_c (sm_o (by decide)) smA_n))))), rfl⟩⟩
    · have e := ln_P2_2 (p := p) (F := F) (b := b) (g := g) (s := s) (m := m) (by omega) (by omega) hF (by omega) (by omega) (by omega) (by omega) (hm 0) (hm 1)
      exact ⟨_, _, e.1, e.2, .inr ⟨g, 0, [(41, s), (15, 0), (41, m), (33, 0), (24, 0)], rfl, hg, (smA_c (sm_o (by decide)) (smA_c (sm_o (by decide)) (smA_c (sm_o (by decide)) (smA_c (sm_o (by decide)) (smA_c (sm_o (by decide)) smA_n))))), rfl⟩⟩
    · have e := ln_P2_3 (p := p) (F := F) (b := b) (g := g) (s := s) (m := m) (by omega) (by omega) hF (by omega) (by omega) (by omega) (by omega) (hm 0) (hm 1)
      exact ⟨_, _, e.1, e.2, .inr ⟨g, s, [(41, s), (16, nmV 102 b), (32, 0)], rfl, hg, (smA_c (sm_o (by decide)) (smA_c (sm_f (by decide) (by assumption)) (smA_c (sm_o (by decide)) smA_n))), rfl⟩⟩
    · have e := ln_P2_4 (p := p) (F := F) (b := b) (g := g) (s := s) (m := m) (by omega) (by omega) hF (by omega) (by omega) (by omega) (by omega) (hm 0) (hm 1)
      exact ⟨_, _, e.1, e.2, .inr ⟨g, 0, [(41, s), (41, 99999), (33, 0), (41, 99999), (33, 0), (15, 0), (41, 3), (32, 0), (34, 0)], rfl, hg, (smA_c (sm_o (by decide)) (smA_c (sm_o (by decide)) (smA_c (sm_o (by decide)) (smA_c (sm_o (by decide)) (smA_c (sm_o (by decide)) (smA_c (sm_o (by decide)) (smA_c (sm_o (by decide)) (smA_c (sm_o (by decide)) (smA_c (sm_o (by decide)) smA_n))))))))), rfl⟩⟩
theorem pn_3 {F G p : Nat} {sp : Option Nat} {b q s m : Nat} (hF : F ≤ 6) (hG : G ≤ 8) (hp : p < 6) (h1 : ∀ g, sp = some g → g < G) (h2 : b < F) (h4 : q < 5) (h5 : s < 120) (h6 : m < 30) : ∃ x tl, LNE x (pT p F (sp, b, 3, q, s, m)) ((53, nmV 112 p) :: (mbV b F 3 ++ tl)) ∧ (lnI x).length ≤ 31 ∧ (tl = [] ∨ ∃ g v sm, tl = (63, nmV 103 g) :: (sm ++ [(65, v)]) ∧ g < G ∧ (∀ x ∈ sm, smE F G x) ∧ (sm.any fun x => decide (x.1 = 19)) = false) := by
  have hm : ∀ k, (b + k) % F < 10 := fun k => by have := Nat.mod_lt (b + k) (show 0 < F by omega); omega
  cases sp with
  | none =>
    have e := ln_P3_5 (p := p) (F := F) (b := b) (s := s) (m := m) (q := q) (by omega) (by omega) hF (by omega) (hm 0) (hm 1) (hm 2)
    exact ⟨_, _, e.1, e.2, .inl rfl⟩
  | some g =>
    have hg := h1 g rfl
    rcases (show q = 0 ∨ q = 1 ∨ q = 2 ∨ q = 3 ∨ q = 4 by omega) with rfl | rfl | rfl | rfl | rfl
    · have e := ln_P3_0 (p := p) (F := F) (b := b) (g := g) (s := s) (m := m) (by omega) (by omega) hF (by omega) (by omega) (by omega) (by omega) (hm 0) (hm 1) (hm 2)
      exact ⟨_, _, e.1, e.2, .inr ⟨g, s, [(41, s)], rfl, hg, (smA_c (sm_o (by decide)) smA_n), rfl⟩⟩
    · have e := ln_P3_1 (p := p) (F := F) (b := b) (g := g) (s := s) (m := m) (by omega) (by omega) hF (by omega) (by omega) (by omega) (by omega) (hm 0) (hm 1) (hm 2)
      exact ⟨_, _, e.1, e.2, .inr ⟨g, 0, [(2, nmV 103 g), (41, 2), (34, 0), (41, (s % 30)), (31, 0)], rfl, hg, (smA_c (sm_g (by decide) (by assumption)) (smA_c (sm_o (by decide)) (smA_c (sm_o (by decide)) (smA_c (sm_o (by decide)) (smA_c (sm_o (by decide)) smA_n))))), rfl⟩⟩
    · have e := ln_P3_2 (p := p) (F := F) (b := b) (g := g) (s := s) (m := m) (by omega) (by omega) hF (by omega) (by omega) (by omega) (by omega) (hm 0) (hm 1) (hm 2)
      exact ⟨_, _, e.1, e.2, .inr ⟨g, 0, [(41, s), (15, 0), (41, m), (33, 0), (24, 0)], rfl, hg, (smA_c (sm_o (by decide)) (smA_c (sm_o (by decide)) (smA_c (sm_o (by decide)) (smA_c (sm_o (by decide)) (smA_c (sm_o (by decide)) smA_n))))), rfl⟩⟩
    · have e := ln_P3_3 (p := p) (F := F) (b := b) (g := g) (s := s) (m := m) (by omega) (by omega) hF (by omega) (by omega) (by omega) (by omega) (hm 0) (hm 1) (hm 2)
      exact ⟨_, _, e.1, e.2, .inr ⟨g, s, [(41, s), (16, nmV 102 b), (32, 0)], rfl, hg, (smA_c (sm_o (by decide)) (smA_c (sm_f (by decide) (by assumption)) (smA_c (sm_o (by decide)) smA_n))), rfl⟩⟩
    · have e := ln_P3_4 (p := p) (F := F) (b := b) (g := g) (s := s) (m := m) (by omega) (by omega) hF (by omega) (by omega) (by omega) (by omega) (hm 0) (hm 1) (hm 2)
      exact ⟨_, _, e.1, e.2, .inr ⟨g, 0, [(41, s), (41, 99999), (33, 0), (41, 99999), (33, 0), (15, 0), (41, 3), (32, 0), (34, 0)], rfl, hg, (smA_c (sm_o (by decide)) (smA_c (sm_o (by decide)) (smA_c (sm_o (by decide)) (smA_c (sm_o (by decide)) (smA_c (sm_o (by decide)) (smA_c (sm_o (by decide)) (smA_c (sm_o (by decide)) (smA_c (sm_o (by decide)) (smA_c (sm_o (by decide)) smA_n))))))))), rfl⟩⟩
theorem pn_4 {F G p : Nat} {sp : Option Nat} {b q s m : Nat} (hF : F ≤ 6) (hG : G ≤ 8) (hp : p < 6) (h1 : ∀ g, sp = some g → g < G) (h2 : b < F) (h4 : q < 5) (h5 : s < 120) (h6 : m < 30) : ∃ x tl, LNE x (pT p F (sp, b, 4, q, s, m)) ((53, nmV 112 p) :: (mbV b F 4 ++ tl)) ∧ (lnI x).length ≤ 31 ∧ (tl = [] ∨ ∃ g v sm, tl = (63, nmV 103 g) :: (sm ++ [(65, v)]) ∧ g < G ∧ (∀ x ∈ sm, smE F G x) ∧ (sm.any fun x => decide (x.1 = 19)) = false) := by
  have hm : ∀ k, (b + k) % F < 10 := fun k => by have := Nat.mod_lt (b + k) (show 0 < F by omega); omega
  cases sp with
  | none =>
    have e := ln_P4_5 (p := p) (F := F) (b := b) (s := s) (m := m) (q := q) (by omega) (by omega) hF (by omega) (hm 0) (hm 1) (hm 2) (hm 3)
    exact ⟨_, _, e.1, e.2, .inl rfl⟩
  | some g =>
    have hg := h1 g rfl
    rcases (show q = 0 ∨ q = 1 ∨ q = 2 ∨ q = 3 ∨ q = 4 by omega) with rfl | rfl | rfl | rfl | rfl
    · have e := ln_P4_0 (p := p) (F := F) (b := b) (g := g) (s := s) (m := m) (by omega) (by omega) hF (by omega) (by omega) (by omega) (by omega) (hm 0) (hm 1) (hm 2) (hm 3)
      exact ⟨_, _, e.1, e.2, .inr ⟨g, s, [(41, s)], rfl, hg, (smA_c (sm_o (by decide)) smA_n), rfl⟩⟩
    · have e := ln_P4_1 (p := p) (F := F) (b := b) (g := g) (s := s) (m := m) (by omega) (by omega) hF (by omega) (by omega) (by omega) (by omega) (hm 0) (hm 1) (hm 2) (hm 3)
      exact ⟨_, _, e.1, e.2, .inr ⟨g, 0, [(2, nmV 103 g), (41, 2), (34, 0), (41, (s % 30)), (31, 0)], rfl, hg, (smA_c (sm_g (by decide) (by assumption)) (smA_c (sm_o (by decide)) (smA_c (sm_o (by decide)) (smA_c (sm_o (by decide)) (smA_c (sm_o (by decide)) smA_n))))), rfl⟩⟩
    · have e := ln_P4_2 (p := p) (F := F) (b := b) (g := g) (s := s) (m := m) (by omega) (by omega) hF (by omega) (by omega) (by omega) (by omega) (hm 0) (hm 1) (hm 2) (hm 3)
      exact ⟨_, _, e.1, e.2, .inr ⟨g, 0, [(41, s), (15, 0), (41, m), (33, 0), (24, 0)], rfl, hg, (smA_c (sm_o (by decide)) (smA_c (sm_o (by decide)) (smA_c (sm_o (by decide)) (smA_c (sm_o (by decide)) (smA_c (sm_o (by decide)) smA_n))))), rfl⟩⟩
    · have e := ln_P4_3 (p := p) (F := F) (b := b) (g := g) (s := s) (m := m) (by omega) (by omega) hF (by omega) (by omega) (by omega) (by omega) (hm 0) (hm 1) (hm 2) (hm 3)
      exact ⟨_, _, e.1, e.2, .inr ⟨g, s, [(41, s), (16, nmV 102 b), (32, 0)], rfl, hg, (smA_c (sm_o (by decide)) (smA_c (sm_f (by decide) (by assumption)) (smA_c (sm_o (by decide)) smA_n))), rfl⟩⟩
    · have e := ln_P4_4 (p := p) (F := F) (b := b) (g := g) (s := s) (m := m) (by omega) (by omega) hF (by omega) (by omega) (by omega) (by omega) (hm 0) (hm 1) (hm 2) (hm 3)
      exact ⟨_, _, e.1, e.2, .inr ⟨g, 0, [(41, s), (41, 99999), (33, 0), (41, 99999), (33, 0), (15, 0), (41, 3), (32, 0), (34, 0)], rfl, hg, (smA_c (sm_o (by decide)) (smA_c (sm_o (by decide)) (smA_c (sm_o (by decide)) (smA_c (sm_o (by decide)) (smA_c (sm_o (by decide)) (smA_c (sm_o (by decide)) (smA_c (sm_o (by decide)) (smA_c (sm_o (by decide)) (smA_c (sm_o (by decide)) smA_n))))))))), rfl⟩⟩
theorem pn_5 {F G p : Nat} {sp : Option Nat} {b q s m : Nat} (hF : F ≤ 6) (hG : G ≤ 8) (hp : p < 6) (h1 : ∀ g, sp = some g → g < G) (h2 : b < F) (h4 : q < 5) (h5 : s < 120) (h6 : m < 30) : ∃ x tl, LNE x (pT p F (sp, b, 5, q, s, m)) ((53, nmV 112 p) :: (mbV b F 5 ++ tl)) ∧ (lnI x).length ≤ 31 ∧ (tl = [] ∨ ∃ g v sm, tl = (63, nmV 103 g) :: (sm ++ [(65, v)]) ∧ g < G ∧ (∀ x ∈ sm, smE F G x) ∧ (sm.any fun x => decide (x.1 = 19)) = false) := by
  have hm : ∀ k, (b + k) % F < 10 := fun k => by have := Nat.mod_lt (b + k) (show 0 < F by omega); omega
  cases sp with
  | none =>
    have e := ln_P5_5 (p := p) (F := F) (b := b) (s := s) (m := m) (q := q) (by omega) (by omega) hF (by omega) (hm 0) (hm 1) (hm 2) (hm 3) (hm 4)
    exact ⟨_, _, e.1, e.2, .inl rfl⟩
  | some g =>
    have hg := h1 g rfl
    rcases (show q = 0 ∨ q = 1 ∨ q = 2 ∨ q = 3 ∨ q = 4 by omega) with rfl | rfl | rfl | rfl | rfl
    · have e := ln_P5_0 (p := p) (F := F) (b := b) (g := g) (s := s) (m := m) (by omega) (by omega) hF (by omega) (by omega) (by omega) (by omega) (hm 0) (hm 1) (hm 2) (hm 3) (hm 4)
      exact ⟨_, _, e.1, e.2, .inr ⟨g, s, [(41, s)], rfl, hg, (smA_c (sm_o (by decide)) smA_n), rfl⟩⟩
    · have e := ln_P5_1 (p := p) (F := F) (b := b) (g := g) (s := s) (m := m) (by omega) (by omega) hF (by omega) (by omega) (by omega) (by omega) (hm 0) (hm 1) (hm 2) (hm 3) (hm 4)
      exact ⟨_, _, e.1, e.2, .inr ⟨g, 0, [(2, nmV 103 g), (41, 2), (34, 0), (41, (s % 30)), (31, 0)], rfl, hg, (smA_c (sm_g (by decide) (by assumption)) (smA_c (sm_o (by decide)) (smA_c (sm_o (by decide)) (smA_c (sm_o (by decide)) (smA_c (sm_o (by decide)) smA_n))))), rfl⟩⟩
    · have e := ln_P5_2 (p := p) (F := F) (b := b) (g := g) (s := s) (m := m) (by omega) (by omega) hF (by omega) (by omega) (by omega) (by omega) (hm 0) (hm 1) (hm 2) (hm 3) (hm 4)
      exact ⟨_, _, e.1, e.2, .inr ⟨g, 0, [(41, s), (15, 0), (41, m), (33, 0), (24, 0)], rfl, hg, (smA_c (sm_o (by decide)) (smA_c (sm_o (by decide)) (smA_c (sm_o (by decide)) (smA_c (sm_o (by decide)) (smA_c (sm_o (by decide)) smA_n))))), rfl⟩⟩
    · have e := ln_P5_3 (p := p) (F := F) (b := b) (g := g) (s := s) (m := m) (by omega) (by omega) hF (by omega) (by omega) (by omega) (by omega) (hm 0) (hm 1) (hm 2) (hm 3) (hm 4)
      exact ⟨_, _, e.1, e.2, .inr ⟨g, s, [(41, s), (16, nmV 102 b), (32, 0)], rfl, hg, (smA_c (sm_o (by decide)) (smA_c (sm_f (by decide) (by assumption)) (smA_c (sm_o (by decide)) smA_n))), rfl⟩⟩
    · have e := ln_P5_4 (p := p) (F := F) (b := b) (g := g) (s := s) (m := m) (by omega) (by omega) hF (by omega) (by omega) (by omega) (by omega) (hm 0) (hm 1) (hm 2) (hm 3) (hm 4)
      exact ⟨_, _, e.1, e.2, .inr ⟨g, 0, [(41, s), (41, 99999), (33, 0), (41, 99999), (33, 0), (15, 0), (41, 3), (32, 0), (34, 0)], rfl, hg, (smA_c (sm_o (by decide)) (smA_c (sm_o (by decide)) (smA_c (sm_o (by decide)) (smA_c (sm_o (by decide)) (smA_c (sm_o (by decide)) (smA_c (sm_o (by decide)) (smA_c (sm_o (by decide)) (smA_c (sm_o (by decide)) (smA_c (sm_o (by decide)) smA_n))))))))), rfl⟩⟩
theorem pn_6 {F G p : Nat} {sp : Option Nat} {b q s m : Nat} (hF : F ≤ 6) (hG : G ≤ 8) (hp : p < 6) (h1 : ∀ g, sp = some g → g < G) (h2 : b < F) (h4 : q < 5) (h5 : s < 120) (h6 : m < 30) : ∃ x tl, LNE x (pT p F (sp, b, 6, q, s, m)) ((53, nmV 112 p) :: (mbV b F 6 ++ tl)) ∧ (lnI x).length ≤ 31 ∧ (tl = [] ∨ ∃ g v sm, tl = (63, nmV 103 g) :: (sm ++ [(65, v)]) ∧ g < G ∧ (∀ x ∈ sm, smE F G x) ∧ (sm.any fun x => decide (x.1 = 19)) = false) := by
  have hm : ∀ k, (b + k) % F < 10 := fun k => by have := Nat.mod_lt (b + k) (show 0 < F by omega); omega
  cases sp with
  | none =>
    have e := ln_P6_5 (p := p) (F := F) (b := b) (s := s) (m := m) (q := q) (by omega) (by omega) hF (by omega) (hm 0) (hm 1) (hm 2) (hm 3) (hm 4) (hm 5)
    exact ⟨_, _, e.1, e.2, .inl rfl⟩
  | some g =>
    have hg := h1 g rfl
    rcases (show q = 0 ∨ q = 1 ∨ q = 2 ∨ q = 3 ∨ q = 4 by omega) with rfl | rfl | rfl | rfl | rfl
    · have e := ln_P6_0 (p := p) (F := F) (b := b) (g := g) (s := s) (m := m) (by omega) (by omega) hF (by omega) (by omega) (by omega) (by omega) (hm 0) (hm 1) (hm 2) (hm 3) (hm 4) (hm 5)
      exact ⟨_, _, e.1, e.2, .inr ⟨g, s, [(41, s)], rfl, hg, (smA_c (sm_o (by decide)) smA_n), rfl⟩⟩
    · have e := ln_P6_1 (p := p) (F := F) (b := b) (g := g) (s := s) (m := m) (by omega) (by omega) hF (by omega) (by omega) (by omega) (by omega) (hm 0) (hm 1) (hm 2) (hm 3) (hm 4) (hm 5)
      exact ⟨_, _, e.1, e.2, .inr ⟨g, 0, [(2, nmV 103 g), (41, 2), (34, 0), (41, (s % 30)), (31, 0)], rfl, hg, (smA_c (sm_g (by decide) (by assumption)) (smA_c (sm_o (by decide)) (smA_c (sm_o (by decide)) (smA_c (sm_o (by decide)) (smA_c (sm_o (by decide)) smA_n))))), rfl⟩⟩
    · have e := ln_P6_2 (p := p) (F := F) (b := b) (g := g) (s := s) (m := m) (by omega) (by omega) hF (by omega) (by omega) (by omega) (by omega) (hm 0) (hm 1) (hm 2) (hm 3) (hm 4) (hm 5)
      exact ⟨_, _, e.1, e.2, .inr ⟨g, 0, [(41, s), (15, 0), (41, m), (33, 0), (24, 0)], rfl, hg, (smA_c (sm_o (by decide)) (smA_c (sm_o (by decide)) (smA_c (sm_o (by decide)) (smA_c (sm_o (by decide)) (smA_c (sm_o (by decide)) smA_n))))), rfl⟩⟩
    · have e := ln_P6_3 (p := p) (F := F) (b := b) (g := g) (s := s) (m := m) (by omega) (by omega) hF (by omega) (by omega) (by omega) (by omega) (hm 0) (hm 1) (hm 2) (hm 3) (hm 4) (hm 5)
      exact ⟨_, _, e.1, e.2, .inr ⟨g, s, [(41, s), (16, nmV 102 b), (32, 0)], rfl, hg, (smA_c (sm_o (by decide)) (smA_c (sm_f (by decide) (by assumption)) (smA_c (sm_o (by decide)) smA_n))), rfl⟩⟩
    · have e := ln_P6_4 (p := p) (F := F) (b := b) (g := g) (s := s) (m := m) (by omega) (by omega) hF (by omega) (by omega) (by omega) (by omega) (hm 0) (hm 1) (hm 2) (hm 3) (hm 4) (hm 5)
      exact ⟨_, _, e.1, e.2, .inr ⟨g, 0, [(41, s), (41, 99999), (33, 0), (41, 99999), (33, 0), (15, 0), (41, 3), (32, 0), (34, 0)], rfl, hg, (smA_c (sm_o (by decide)) (smA_c (sm_o (by decide)) (smA_c (sm_o (by decide)) (smA_c (sm_o (by decide)) (smA_c (sm_o (by decide)) (smA_c (sm_o (by decide)) (smA_c (sm_o (by decide)) (smA_c (sm_o (by decide)) (smA_c (sm_o (by decide)) smA_n))))))))), rfl⟩⟩
theorem pn_ls {F G p : Nat} {y : Option Nat × Nat × Nat × Nat × Nat × Nat} (hF : F ≤ 6) (hG : G ≤ 8) (hp : p < 6) (h : pOk F G y) : ∃ x tl, LNE x (pT p F y) ((53, nmV 112 p) :: (mbV y.2.1 F y.2.2.1 ++ tl)) ∧ (lnI x).length ≤ 31 ∧ (tl = [] ∨ ∃ g v sm, tl = (63, nmV 103 g) :: (sm ++ [(65, v)]) ∧ g < G ∧ (∀ x ∈ sm, smE F G x) ∧ (sm.any fun x => decide (x.1 = 19)) = false) := by
  obtain ⟨sp, b, n, q, s, m⟩ := y
  obtain ⟨h1, h2, h3, h4, h5, h6⟩ := h
  simp only at h1 h2 h3 h4 h5 h6 ⊢
  rcases (show n = 1 ∨ n = 2 ∨ n = 3 ∨ n = 4 ∨ n = 5 ∨ n = 6 by omega) with rfl | rfl | rfl | rfl | rfl | rfl
  · exact pn_1 hF hG hp h1 h2 h4 h5 h6
  · exact pn_2 hF hG hp h1 h2 h4 h5 h6
  · exact pn_3 hF hG hp h1 h2 h4 h5 h6
  · exact pn_4 hF hG hp h1 h2 h4 h5 h6
  · exact pn_5 hF hG hp h1 h2 h4 h5 h6
  · exact pn_6 hF hG hp h1 h2 h4 h5 h6
