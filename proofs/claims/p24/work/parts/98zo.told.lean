/-! ## Pure: what the class tells without a throw (the checksum asks so) -/
theorem c_ckGn {b o G a : Nat} {M : gMem} (h1 : mT M b = 10) (h2 : mR M b 1 = some o) (h3 : mT M o = 7) (h4 : mI M o 2 = nI G) (hG : G ≤ 8) (ha : a < G) : f_X11_checkGround_n M b (nI a) = some ((), M) := sorry

theorem c_ckFn {b o G a : Nat} {M : gMem} (h1 : mT M b = 10) (h2 : mR M b 1 = some o) (h3 : mT M o = 7) (h4 : mI M o 3 = nI G) (hG : G ≤ 8) (ha : a < G) : f_X11_checkFisher_n M b (nI a) = some ((), M) := sorry

theorem c_cvn {b o F G n c : Nat} {M : gMem} (L : LC o M) (h1 : mT M b = 10) (h2 : mR M b 1 = some o) (h0 : mR M b 0 = some (b + 1)) (t9 : mT M (b + 1) = 9) (hn : mI M (b + 1) 0 = nI n) (g2 : cutF 86 o M 0 2 = nI G) (g3 : cutF 86 o M 0 3 = nI F) (hG : G ≤ 8) (hF : F ≤ 8) (hc : c < 10) : f_X11_count_n M b (nI c) = some ((cvA (cutF 86 o M) F G n c), M) := sorry

theorem c_gvn {b o G g c : Nat} {M : gMem} (L : LC o M) (h1 : mT M b = 10) (h2 : mR M b 1 = some o) (h4 : mI M o 2 = nI G) (hG : G ≤ 8) (hg : g < G) (hc : c < 9) : f_X11_ground_n M b (nI g) (nI c) = some ((gvA (cutF 86 o M) g c), M) := sorry

theorem c_fvn {b o G g c : Nat} {M : gMem} (L : LC o M) (h1 : mT M b = 10) (h2 : mR M b 1 = some o) (h4 : mI M o 3 = nI G) (hG : G ≤ 8) (hg : g < G) (hc : c < 10) (c9 : cutF 86 o M (34 + 2 * g) 9 = 0 ∨ cutF 86 o M (34 + 2 * g) 9 = 1) : f_X11_fisher_n M b (nI g) (nI c) = some ((fvA (cutF 86 o M) g c), M) := sorry

theorem c_pvn {b o np p c : Nat} {M : gMem} (L : LC o M) (h1 : mT M b = 10) (h2 : mR M b 1 = some o) (h4 : mI M o 5 = nI np) (hG : np ≤ 6) (hp : p < np) (hc : c < 7) : f_X11_pact_n M b (nI p) (nI c) = some ((pvA (cutF 86 o M) p c), M) := sorry

theorem c_tkn {b o G F g f : Nat} {M : gMem} (L : LC o M) (h1 : mT M b = 10) (h2 : mR M b 1 = some o) (g2 : mI M o 2 = nI G) (g3 : mI M o 3 = nI F) (hG : G ≤ 8) (hF : F ≤ 8) (hg : g < G) (hf : f < F) : f_X11_took_n M b (nI g) (nI f) = some (cutF 86 o M (35 + 2 * f) g, M) := sorry
