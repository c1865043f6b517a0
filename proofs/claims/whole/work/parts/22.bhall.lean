set_option maxRecDepth 20000 in
theorem B_X3_zealOf_0 {M : qMem} {g o x2 : Int} (h_g : qHl g) (h_o : qSt o) : qlim C_X3_zealOf (0, [some (qA g), some (qA o), some (qI x2), none, none, none, none, none], [], qH0 M) = qlim C_X3_zealOf (8, [some (qA g), some (qA o), some (qI x2), some (qI 3), some (qJ 0), none, some (qI 0), none], [], qH0 M) := (qlim_n (n := 6) (c' := (8, [some (qA g), some (qA o), some (qI x2), some (qI 3), some (qJ 0), none, some (qI 0), none], [], qH0 M)) rfl)
set_option maxRecDepth 20000 in
theorem B_X3_zealOf_8 {M : qMem} {g o x2 x3 x4 x6 : Int} {x7 : Option qV} (h_g : qHl g) (h_o : qSt o) : qlim C_X3_zealOf (8, [some (qA g), some (qA o), some (qI x2), some (qI x3), some (qJ x4), none, some (qI x6), x7], [], qH0 M) = qlim C_X3_zealOf ((if M g 3 ≤ x6 then 237 else 17), [some (qA g), some (qA o), some (qI x2), some (qI x3), some (qJ x4), none, some (qI x6), x7], [], qH0 M) := by
  refine Eq.trans (qlim_n (n := 2) (c' := (11, [some (qA g), some (qA o), some (qI x2), some (qI x3), some (qJ x4), none, some (qI x6), x7], [qA g, qI x6], qH0 M)) rfl) ?_
  refine Eq.trans (qs_getI rfl (qHl_ty h_g) (by decide)) ?_
  exact (qlim_n (n := 1) (c' := ((if M g 3 ≤ x6 then 237 else 17), [some (qA g), some (qA o), some (qI x2), some (qI x3), some (qJ x4), none, some (qI x6), x7], [], qH0 M)) rfl)
set_option maxRecDepth 20000 in
theorem B_X3_zealOf_17 {M : qMem} {g o x2 x3 x4 x6 : Int} {x7 : Option qV} (h_g : qHl g) (h_o : qSt o) : qlim C_X3_zealOf (17, [some (qA g), some (qA o), some (qI x2), some (qI x3), some (qJ x4), none, some (qI x6), x7], [], qH0 M) = qlim C_X3_zealOf ((if jcmp (jand x4 1) 0 = 0 then 30 else 26), [some (qA g), some (qA o), some (qI x2), some (qI x3), some (qJ x4), none, some (qI x6), x7], [], qH0 M) := (qlim_n (n := 6) (c' := ((if jcmp (jand x4 1) 0 = 0 then 30 else 26), [some (qA g), some (qA o), some (qI x2), some (qI x3), some (qJ x4), none, some (qI x6), x7], [], qH0 M)) rfl)
set_option maxRecDepth 20000 in
theorem B_X3_zealOf_26 {M : qMem} {g o x2 x3 x4 x6 : Int} {x7 : Option qV} (h_g : qHl g) (h_o : qSt o) : qlim C_X3_zealOf (26, [some (qA g), some (qA o), some (qI x2), some (qI x3), some (qJ x4), none, some (qI x6), x7], [], qH0 M) = qlim C_X3_zealOf (31, [some (qA g), some (qA o), some (qI x2), some (qI x3), some (qJ x4), none, some (qI x6), x7], [qI 1], qH0 M) := (qlim_n (n := 2) (c' := (31, [some (qA g), some (qA o), some (qI x2), some (qI x3), some (qJ x4), none, some (qI x6), x7], [qI 1], qH0 M)) rfl)
set_option maxRecDepth 20000 in
theorem B_X3_zealOf_30 {M : qMem} {g o x2 x3 x4 x6 : Int} {x7 : Option qV} (h_g : qHl g) (h_o : qSt o) : qlim C_X3_zealOf (30, [some (qA g), some (qA o), some (qI x2), some (qI x3), some (qJ x4), none, some (qI x6), x7], [], qH0 M) = qlim C_X3_zealOf (31, [some (qA g), some (qA o), some (qI x2), some (qI x3), some (qJ x4), none, some (qI x6), x7], [qI 0], qH0 M) := (qlim_n (n := 1) (c' := (31, [some (qA g), some (qA o), some (qI x2), some (qI x3), some (qJ x4), none, some (qI x6), x7], [qI 0], qH0 M)) rfl)
set_option maxRecDepth 20000 in
theorem B_X3_zealOf_31 {M : qMem} {g o x2 x3 x4 x6 s0 : Int} {x7 : Option qV} (h_g : qHl g) (h_o : qSt o) (h1 : 0 ≤ x6) (h2 : x6 < 100) : qlim C_X3_zealOf (31, [some (qA g), some (qA o), some (qI x2), some (qI x3), some (qJ x4), none, some (qI x6), x7], [qI s0], qH0 M) = qlim C_X3_zealOf (qlk [(33, 96), (38, 105), (98, 153), (115, 178), (124, 130)] 203 (kand (M (g + 2) x6) 255), [some (qA g), some (qA o), some (qI x2), some (qI x3), some (qJ x4), none, some (qI x6), some (qI s0)], [], qH0 M) := by
  refine Eq.trans (qlim_n (n := 2) (c' := (34, [some (qA g), some (qA o), some (qI x2), some (qI x3), some (qJ x4), none, some (qI x6), some (qI s0)], [qA g], qH0 M)) rfl) ?_
  refine Eq.trans (qs_getR (z := g + 2) rfl (qHl_ty h_g) (by decide) (qHl_g1 h_g)) ?_
  refine Eq.trans (qlim_n (n := 1) (c' := (39, [some (qA g), some (qA o), some (qI x2), some (qI x3), some (qJ x4), none, some (qI x6), some (qI s0)], [qI x6, qA (g + 2)], qH0 M)) rfl) ?_
  refine Eq.trans (qs_iaload rfl (qHl_t2 h_g) h1 h2) ?_
  exact (qlim_n (n := 3) (c' := (qlk [(33, 96), (38, 105), (98, 153), (115, 178), (124, 130)] 203 (kand (M (g + 2) x6) 255), [some (qA g), some (qA o), some (qI x2), some (qI x3), some (qJ x4), none, some (qI x6), some (qI s0)], [], qH0 M)) rfl)
set_option maxRecDepth 20000 in
theorem B_X3_zealOf_96 {M : qMem} {g o x2 x3 x4 x6 x7 : Int} (h_g : qHl g) (h_o : qSt o) : qlim C_X3_zealOf (96, [some (qA g), some (qA o), some (qI x2), some (qI x3), some (qJ x4), none, some (qI x6), some (qI x7)], [], qH0 M) = qlim C_X3_zealOf (231, [some (qA g), some (qA o), some (qI x2), some (qI x3), some (qJ (jxor x4 1)), none, some (qI x6), some (qI x7)], [], qH0 M) := (qlim_n (n := 5) (c' := (231, [some (qA g), some (qA o), some (qI x2), some (qI x3), some (qJ (jxor x4 1)), none, some (qI x6), some (qI x7)], [], qH0 M)) rfl)
set_option maxRecDepth 20000 in
theorem B_X3_zealOf_105 {M : qMem} {g o x2 x3 x4 x6 x7 : Int} (h_g : qHl g) (h_o : qSt o) : qlim C_X3_zealOf (105, [some (qA g), some (qA o), some (qI x2), some (qI x3), some (qJ x4), none, some (qI x6), some (qI x7)], [], qH0 M) = qlim C_X3_zealOf ((if x7 = 0 then 117 else 110), [some (qA g), some (qA o), some (qI x2), some (qI x3), some (qJ x4), none, some (qI x6), some (qI x7)], [], qH0 M) := (qlim_n (n := 2) (c' := ((if x7 = 0 then 117 else 110), [some (qA g), some (qA o), some (qI x2), some (qI x3), some (qJ x4), none, some (qI x6), some (qI x7)], [], qH0 M)) rfl)
set_option maxRecDepth 20000 in
theorem B_X3_zealOf_110 {M : qMem} {g o x2 x3 x4 x6 x7 : Int} (h_g : qHl g) (h_o : qSt o) : qlim C_X3_zealOf (110, [some (qA g), some (qA o), some (qI x2), some (qI x3), some (qJ x4), none, some (qI x6), some (qI x7)], [], qH0 M) = qlim C_X3_zealOf (125, [some (qA g), some (qA o), some (qI x2), some (qI x3), some (qJ x4), none, some (qI x6), some (qI x7)], [qJ (jushr x4 1)], qH0 M) := (qlim_n (n := 4) (c' := (125, [some (qA g), some (qA o), some (qI x2), some (qI x3), some (qJ x4), none, some (qI x6), some (qI x7)], [qJ (jushr x4 1)], qH0 M)) rfl)
set_option maxRecDepth 20000 in
theorem B_X3_zealOf_117 {M : qMem} {g o x2 x3 x4 x6 x7 : Int} (h_g : qHl g) (h_o : qSt o) : qlim C_X3_zealOf (117, [some (qA g), some (qA o), some (qI x2), some (qI x3), some (qJ x4), none, some (qI x6), some (qI x7)], [], qH0 M) = qlim C_X3_zealOf (125, [some (qA g), some (qA o), some (qI x2), some (qI x3), some (qJ x4), none, some (qI x6), some (qI x7)], [qJ (jand (jushr x4 1) (-2))], qH0 M) := (qlim_n (n := 5) (c' := (125, [some (qA g), some (qA o), some (qI x2), some (qI x3), some (qJ x4), none, some (qI x6), some (qI x7)], [qJ (jand (jushr x4 1) (-2))], qH0 M)) rfl)
set_option maxRecDepth 20000 in
theorem B_X3_zealOf_125 {M : qMem} {g o x2 x3 x4 x6 x7 s0 : Int} (h_g : qHl g) (h_o : qSt o) : qlim C_X3_zealOf (125, [some (qA g), some (qA o), some (qI x2), some (qI x3), some (qJ x4), none, some (qI x6), some (qI x7)], [qJ s0], qH0 M) = qlim C_X3_zealOf (231, [some (qA g), some (qA o), some (qI x2), some (qI x3), some (qJ s0), none, some (qI x6), some (qI x7)], [], qH0 M) := (qlim_n (n := 2) (c' := (231, [some (qA g), some (qA o), some (qI x2), some (qI x3), some (qJ s0), none, some (qI x6), some (qI x7)], [], qH0 M)) rfl)
set_option maxRecDepth 20000 in
theorem B_X3_zealOf_130 {M : qMem} {g o x2 x3 x4 x6 x7 : Int} (h_g : qHl g) (h_o : qSt o) : qlim C_X3_zealOf (130, [some (qA g), some (qA o), some (qI x2), some (qI x3), some (qJ x4), none, some (qI x6), some (qI x7)], [], qH0 M) = qlim C_X3_zealOf ((if x7 = 0 then 144 else 135), [some (qA g), some (qA o), some (qI x2), some (qI x3), some (qJ x4), none, some (qI x6), some (qI x7)], [], qH0 M) := (qlim_n (n := 2) (c' := ((if x7 = 0 then 144 else 135), [some (qA g), some (qA o), some (qI x2), some (qI x3), some (qJ x4), none, some (qI x6), some (qI x7)], [], qH0 M)) rfl)
set_option maxRecDepth 20000 in
theorem B_X3_zealOf_135 {M : qMem} {g o x2 x3 x4 x6 x7 : Int} (h_g : qHl g) (h_o : qSt o) : qlim C_X3_zealOf (135, [some (qA g), some (qA o), some (qI x2), some (qI x3), some (qJ x4), none, some (qI x6), some (qI x7)], [], qH0 M) = qlim C_X3_zealOf (148, [some (qA g), some (qA o), some (qI x2), some (qI x3), some (qJ x4), none, some (qI x6), some (qI x7)], [qJ (jor (jushr x4 1) 1)], qH0 M) := (qlim_n (n := 6) (c' := (148, [some (qA g), some (qA o), some (qI x2), some (qI x3), some (qJ x4), none, some (qI x6), some (qI x7)], [qJ (jor (jushr x4 1) 1)], qH0 M)) rfl)
set_option maxRecDepth 20000 in
theorem B_X3_zealOf_144 {M : qMem} {g o x2 x3 x4 x6 x7 : Int} (h_g : qHl g) (h_o : qSt o) : qlim C_X3_zealOf (144, [some (qA g), some (qA o), some (qI x2), some (qI x3), some (qJ x4), none, some (qI x6), some (qI x7)], [], qH0 M) = qlim C_X3_zealOf (148, [some (qA g), some (qA o), some (qI x2), some (qI x3), some (qJ x4), none, some (qI x6), some (qI x7)], [qJ (jushr x4 1)], qH0 M) := (qlim_n (n := 3) (c' := (148, [some (qA g), some (qA o), some (qI x2), some (qI x3), some (qJ x4), none, some (qI x6), some (qI x7)], [qJ (jushr x4 1)], qH0 M)) rfl)
set_option maxRecDepth 20000 in
theorem B_X3_zealOf_148 {M : qMem} {g o x2 x3 x4 x6 x7 s0 : Int} (h_g : qHl g) (h_o : qSt o) : qlim C_X3_zealOf (148, [some (qA g), some (qA o), some (qI x2), some (qI x3), some (qJ x4), none, some (qI x6), some (qI x7)], [qJ s0], qH0 M) = qlim C_X3_zealOf (231, [some (qA g), some (qA o), some (qI x2), some (qI x3), some (qJ s0), none, some (qI x6), some (qI x7)], [], qH0 M) := (qlim_n (n := 2) (c' := (231, [some (qA g), some (qA o), some (qI x2), some (qI x3), some (qJ s0), none, some (qI x6), some (qI x7)], [], qH0 M)) rfl)
set_option maxRecDepth 20000 in
theorem B_X3_zealOf_153 {M : qMem} {g o x2 x3 x4 x6 x7 : Int} (h_g : qHl g) (h_o : qSt o) : qlim C_X3_zealOf (153, [some (qA g), some (qA o), some (qI x2), some (qI x3), some (qJ x4), none, some (qI x6), some (qI x7)], [], qH0 M) = qlim C_X3_zealOf ((if x7 = 0 then 172 else 159), [some (qA g), some (qA o), some (qI x2), some (qI x3), some (qJ x4), none, some (qI x6), some (qI x7)], [qI x3], qH0 M) := (qlim_n (n := 3) (c' := ((if x7 = 0 then 172 else 159), [some (qA g), some (qA o), some (qI x2), some (qI x3), some (qJ x4), none, some (qI x6), some (qI x7)], [qI x3], qH0 M)) rfl)
set_option maxRecDepth 20000 in
theorem B_X3_zealOf_159 {M : qMem} {g o x2 x3 x4 x6 x7 s0 : Int} (h_g : qHl g) (h_o : qSt o) (h1 : 0 ≤ x6) (h2 : x6 < 100) : qlim C_X3_zealOf (159, [some (qA g), some (qA o), some (qI x2), some (qI x3), some (qJ x4), none, some (qI x6), some (qI x7)], [qI s0], qH0 M) = qlim C_X3_zealOf (173, [some (qA g), some (qA o), some (qI x2), some (qI x3), some (qJ x4), none, some (qI x6), some (qI x7)], [qI (kshr (M (g + 2) x6) 16), qI s0], qH0 M) := by
  refine Eq.trans (qlim_n (n := 1) (c' := (160, [some (qA g), some (qA o), some (qI x2), some (qI x3), some (qJ x4), none, some (qI x6), some (qI x7)], [qA g, qI s0], qH0 M)) rfl) ?_
  refine Eq.trans (qs_getR (z := g + 2) rfl (qHl_ty h_g) (by decide) (qHl_g1 h_g)) ?_
  refine Eq.trans (qlim_n (n := 1) (c' := (165, [some (qA g), some (qA o), some (qI x2), some (qI x3), some (qJ x4), none, some (qI x6), some (qI x7)], [qI x6, qA (g + 2), qI s0], qH0 M)) rfl) ?_
  refine Eq.trans (qs_iaload rfl (qHl_t2 h_g) h1 h2) ?_
  exact (qlim_n (n := 3) (c' := (173, [some (qA g), some (qA o), some (qI x2), some (qI x3), some (qJ x4), none, some (qI x6), some (qI x7)], [qI (kshr (M (g + 2) x6) 16), qI s0], qH0 M)) rfl)
set_option maxRecDepth 20000 in
theorem B_X3_zealOf_172 {M : qMem} {g o x2 x3 x4 x6 x7 s0 : Int} (h_g : qHl g) (h_o : qSt o) : qlim C_X3_zealOf (172, [some (qA g), some (qA o), some (qI x2), some (qI x3), some (qJ x4), none, some (qI x6), some (qI x7)], [qI s0], qH0 M) = qlim C_X3_zealOf (173, [some (qA g), some (qA o), some (qI x2), some (qI x3), some (qJ x4), none, some (qI x6), some (qI x7)], [qI 0, qI s0], qH0 M) := (qlim_n (n := 1) (c' := (173, [some (qA g), some (qA o), some (qI x2), some (qI x3), some (qJ x4), none, some (qI x6), some (qI x7)], [qI 0, qI s0], qH0 M)) rfl)
set_option maxRecDepth 20000 in
theorem B_X3_zealOf_173 {M : qMem} {g o x2 x3 x4 x6 x7 s0 s1 : Int} (h_g : qHl g) (h_o : qSt o) : qlim C_X3_zealOf (173, [some (qA g), some (qA o), some (qI x2), some (qI x3), some (qJ x4), none, some (qI x6), some (qI x7)], [qI s1, qI s0], qH0 M) = qlim C_X3_zealOf (231, [some (qA g), some (qA o), some (qI x2), some (qI (kadd s0 s1)), some (qJ x4), none, some (qI x6), some (qI x7)], [], qH0 M) := (qlim_n (n := 3) (c' := (231, [some (qA g), some (qA o), some (qI x2), some (qI (kadd s0 s1)), some (qJ x4), none, some (qI x6), some (qI x7)], [], qH0 M)) rfl)
set_option maxRecDepth 20000 in
theorem B_X3_zealOf_178 {M : qMem} {g o x2 x3 x4 x6 x7 : Int} (h_g : qHl g) (h_o : qSt o) : qlim C_X3_zealOf (178, [some (qA g), some (qA o), some (qI x2), some (qI x3), some (qJ x4), none, some (qI x6), some (qI x7)], [], qH0 M) = qlim C_X3_zealOf ((if x7 = 0 then 197 else 184), [some (qA g), some (qA o), some (qI x2), some (qI x3), some (qJ x4), none, some (qI x6), some (qI x7)], [qI x3], qH0 M) := (qlim_n (n := 3) (c' := ((if x7 = 0 then 197 else 184), [some (qA g), some (qA o), some (qI x2), some (qI x3), some (qJ x4), none, some (qI x6), some (qI x7)], [qI x3], qH0 M)) rfl)
set_option maxRecDepth 20000 in
theorem B_X3_zealOf_184 {M : qMem} {g o x2 x3 x4 x6 x7 s0 : Int} (h_g : qHl g) (h_o : qSt o) (h1 : 0 ≤ x6) (h2 : x6 < 100) : qlim C_X3_zealOf (184, [some (qA g), some (qA o), some (qI x2), some (qI x3), some (qJ x4), none, some (qI x6), some (qI x7)], [qI s0], qH0 M) = qlim C_X3_zealOf (198, [some (qA g), some (qA o), some (qI x2), some (qI x3), some (qJ x4), none, some (qI x6), some (qI x7)], [qI (kshr (M (g + 2) x6) 16), qI s0], qH0 M) := by
  refine Eq.trans (qlim_n (n := 1) (c' := (185, [some (qA g), some (qA o), some (qI x2), some (qI x3), some (qJ x4), none, some (qI x6), some (qI x7)], [qA g, qI s0], qH0 M)) rfl) ?_
  refine Eq.trans (qs_getR (z := g + 2) rfl (qHl_ty h_g) (by decide) (qHl_g1 h_g)) ?_
  refine Eq.trans (qlim_n (n := 1) (c' := (190, [some (qA g), some (qA o), some (qI x2), some (qI x3), some (qJ x4), none, some (qI x6), some (qI x7)], [qI x6, qA (g + 2), qI s0], qH0 M)) rfl) ?_
  refine Eq.trans (qs_iaload rfl (qHl_t2 h_g) h1 h2) ?_
  exact (qlim_n (n := 3) (c' := (198, [some (qA g), some (qA o), some (qI x2), some (qI x3), some (qJ x4), none, some (qI x6), some (qI x7)], [qI (kshr (M (g + 2) x6) 16), qI s0], qH0 M)) rfl)
set_option maxRecDepth 20000 in
theorem B_X3_zealOf_197 {M : qMem} {g o x2 x3 x4 x6 x7 s0 : Int} (h_g : qHl g) (h_o : qSt o) : qlim C_X3_zealOf (197, [some (qA g), some (qA o), some (qI x2), some (qI x3), some (qJ x4), none, some (qI x6), some (qI x7)], [qI s0], qH0 M) = qlim C_X3_zealOf (198, [some (qA g), some (qA o), some (qI x2), some (qI x3), some (qJ x4), none, some (qI x6), some (qI x7)], [qI 0, qI s0], qH0 M) := (qlim_n (n := 1) (c' := (198, [some (qA g), some (qA o), some (qI x2), some (qI x3), some (qJ x4), none, some (qI x6), some (qI x7)], [qI 0, qI s0], qH0 M)) rfl)
set_option maxRecDepth 20000 in
theorem B_X3_zealOf_198 {M : qMem} {g o x2 x3 x4 x6 x7 s0 s1 : Int} (h_g : qHl g) (h_o : qSt o) : qlim C_X3_zealOf (198, [some (qA g), some (qA o), some (qI x2), some (qI x3), some (qJ x4), none, some (qI x6), some (qI x7)], [qI s1, qI s0], qH0 M) = qlim C_X3_zealOf (231, [some (qA g), some (qA o), some (qI x2), some (qI (ksub s0 s1)), some (qJ x4), none, some (qI x6), some (qI x7)], [], qH0 M) := (qlim_n (n := 3) (c' := (231, [some (qA g), some (qA o), some (qI x2), some (qI (ksub s0 s1)), some (qJ x4), none, some (qI x6), some (qI x7)], [], qH0 M)) rfl)
set_option maxRecDepth 20000 in
theorem B_X3_zealOf_203 {M : qMem} {g o x2 x3 x4 x6 x7 : Int} (h_g : qHl g) (h_o : qSt o) (h1 : 0 ≤ x6) (h2 : x6 < 100) : qlim C_X3_zealOf (203, [some (qA g), some (qA o), some (qI x2), some (qI x3), some (qJ x4), none, some (qI x6), some (qI x7)], [], qH0 M) = qbd (S_X3_isTrue [qI (M (g + 2) x6), qA o, qI x2] (qH0 M)) (fun r h' => qlim C_X3_zealOf (219, [some (qA g), some (qA o), some (qI x2), some (qI x3), some (qJ x4), none, some (qI x6), some (qI x7)], r.toList ++ [qJ (jshl x4 1)], h')) := by
  refine Eq.trans (qlim_n (n := 4) (c' := (208, [some (qA g), some (qA o), some (qI x2), some (qI x3), some (qJ x4), none, some (qI x6), some (qI x7)], [qA g, qJ (jshl x4 1)], qH0 M)) rfl) ?_
  refine Eq.trans (qs_getR (z := g + 2) rfl (qHl_ty h_g) (by decide) (qHl_g1 h_g)) ?_
  refine Eq.trans (qlim_n (n := 1) (c' := (213, [some (qA g), some (qA o), some (qI x2), some (qI x3), some (qJ x4), none, some (qI x6), some (qI x7)], [qI x6, qA (g + 2), qJ (jshl x4 1)], qH0 M)) rfl) ?_
  refine Eq.trans (qs_iaload rfl (qHl_t2 h_g) h1 h2) ?_
  refine Eq.trans (qlim_n (n := 2) (c' := (216, [some (qA g), some (qA o), some (qI x2), some (qI x3), some (qJ x4), none, some (qI x6), some (qI x7)], [qI x2, qA o, qI (M (g + 2) x6), qJ (jshl x4 1)], qH0 M)) rfl) ?_
  exact (qlim_calls (n := 3) rfl rfl rfl (Nat.le_of_ble_eq_true rfl) (Nat.le_of_ble_eq_true rfl))
set_option maxRecDepth 20000 in
theorem B_X3_zealOf_219 {M : qMem} {g o x2 x3 x4 x6 x7 s0 s1 : Int} (h_g : qHl g) (h_o : qSt o) : qlim C_X3_zealOf (219, [some (qA g), some (qA o), some (qI x2), some (qI x3), some (qJ x4), none, some (qI x6), some (qI x7)], [qI s1, qJ s0], qH0 M) = qlim C_X3_zealOf ((if s1 = 0 then 226 else 222), [some (qA g), some (qA o), some (qI x2), some (qI x3), some (qJ x4), none, some (qI x6), some (qI x7)], [qJ s0], qH0 M) := (qlim_n (n := 1) (c' := ((if s1 = 0 then 226 else 222), [some (qA g), some (qA o), some (qI x2), some (qI x3), some (qJ x4), none, some (qI x6), some (qI x7)], [qJ s0], qH0 M)) rfl)
set_option maxRecDepth 20000 in
theorem B_X3_zealOf_222 {M : qMem} {g o x2 x3 x4 x6 x7 s0 : Int} (h_g : qHl g) (h_o : qSt o) : qlim C_X3_zealOf (222, [some (qA g), some (qA o), some (qI x2), some (qI x3), some (qJ x4), none, some (qI x6), some (qI x7)], [qJ s0], qH0 M) = qlim C_X3_zealOf (227, [some (qA g), some (qA o), some (qI x2), some (qI x3), some (qJ x4), none, some (qI x6), some (qI x7)], [qI 1, qJ s0], qH0 M) := (qlim_n (n := 2) (c' := (227, [some (qA g), some (qA o), some (qI x2), some (qI x3), some (qJ x4), none, some (qI x6), some (qI x7)], [qI 1, qJ s0], qH0 M)) rfl)
set_option maxRecDepth 20000 in
theorem B_X3_zealOf_226 {M : qMem} {g o x2 x3 x4 x6 x7 s0 : Int} (h_g : qHl g) (h_o : qSt o) : qlim C_X3_zealOf (226, [some (qA g), some (qA o), some (qI x2), some (qI x3), some (qJ x4), none, some (qI x6), some (qI x7)], [qJ s0], qH0 M) = qlim C_X3_zealOf (227, [some (qA g), some (qA o), some (qI x2), some (qI x3), some (qJ x4), none, some (qI x6), some (qI x7)], [qI 0, qJ s0], qH0 M) := (qlim_n (n := 1) (c' := (227, [some (qA g), some (qA o), some (qI x2), some (qI x3), some (qJ x4), none, some (qI x6), some (qI x7)], [qI 0, qJ s0], qH0 M)) rfl)
set_option maxRecDepth 20000 in
theorem B_X3_zealOf_227 {M : qMem} {g o x2 x3 x4 x6 x7 s0 s1 : Int} (h_g : qHl g) (h_o : qSt o) : qlim C_X3_zealOf (227, [some (qA g), some (qA o), some (qI x2), some (qI x3), some (qJ x4), none, some (qI x6), some (qI x7)], [qI s1, qJ s0], qH0 M) = qlim C_X3_zealOf (231, [some (qA g), some (qA o), some (qI x2), some (qI x3), some (qJ (jor s0 (ki2l s1))), none, some (qI x6), some (qI x7)], [], qH0 M) := (qlim_n (n := 3) (c' := (231, [some (qA g), some (qA o), some (qI x2), some (qI x3), some (qJ (jor s0 (ki2l s1))), none, some (qI x6), some (qI x7)], [], qH0 M)) rfl)
set_option maxRecDepth 20000 in
theorem B_X3_zealOf_231 {M : qMem} {g o x2 x3 x4 x6 x7 : Int} (h_g : qHl g) (h_o : qSt o) : qlim C_X3_zealOf (231, [some (qA g), some (qA o), some (qI x2), some (qI x3), some (qJ x4), none, some (qI x6), some (qI x7)], [], qH0 M) = qlim C_X3_zealOf (8, [some (qA g), some (qA o), some (qI x2), some (qI x3), some (qJ x4), none, some (qI (kadd x6 1)), some (qI x7)], [], qH0 M) := (qlim_n (n := 2) (c' := (8, [some (qA g), some (qA o), some (qI x2), some (qI x3), some (qJ x4), none, some (qI (kadd x6 1)), some (qI x7)], [], qH0 M)) rfl)
set_option maxRecDepth 20000 in
theorem B_X3_zealOf_237 {M : qMem} {g o x2 x3 x4 x6 : Int} {x7 : Option qV} (h_g : qHl g) (h_o : qSt o) : qlim C_X3_zealOf (237, [some (qA g), some (qA o), some (qI x2), some (qI x3), some (qJ x4), none, some (qI x6), x7], [], qH0 M) = some (some (qI x3), qH0 M) := by
  refine Eq.trans (qlim_n (n := 1) (c' := (238, [some (qA g), some (qA o), some (qI x2), some (qI x3), some (qJ x4), none, some (qI x6), x7], [qI x3], qH0 M)) rfl) ?_
  exact (qlim_ret rfl)
theorem E_X3_zealOf {h : qH} {g o x2 : Int} : S_X3_zealOf [qA g, qA o, qI x2] h = qlim C_X3_zealOf (0, [some (qA g), some (qA o), some (qI x2), none, none, none, none, none], [], h) := qM_at (Nat.le_of_ble_eq_true rfl) rfl
set_option maxRecDepth 20000 in
theorem B_X3_isTrue_0 {M : qMem} {x0 o x2 : Int} (h_o : qSt o) : qlim C_X3_isTrue (0, [some (qI x0), some (qA o), some (qI x2), none, none], [], qH0 M) = qlim C_X3_isTrue (qlk [(100, 91), (107, 61), (112, 56), (118, 71), (119, 81)] 104 (kand x0 255), [some (qI x0), some (qA o), some (qI x2), none, none], [], qH0 M) := (qlim_n (n := 4) (c' := (qlk [(100, 91), (107, 61), (112, 56), (118, 71), (119, 81)] 104 (kand x0 255), [some (qI x0), some (qA o), some (qI x2), none, none], [], qH0 M)) rfl)
set_option maxRecDepth 20000 in
theorem B_X3_isTrue_56 {M : qMem} {x0 o x2 : Int} (h_o : qSt o) : qlim C_X3_isTrue (56, [some (qI x0), some (qA o), some (qI x2), none, none], [], qH0 M) = qlim C_X3_isTrue (112, [some (qI x0), some (qA o), some (qI x2), some (qI x2), none], [], qH0 M) := (qlim_n (n := 3) (c' := (112, [some (qI x0), some (qA o), some (qI x2), some (qI x2), none], [], qH0 M)) rfl)
set_option maxRecDepth 20000 in
theorem B_X3_isTrue_61 {M : qMem} {x0 o x2 : Int} (h_o : qSt o) (h1 : 0 ≤ x2) (h2 : x2 < 6) : qlim C_X3_isTrue (61, [some (qI x0), some (qA o), some (qI x2), none, none], [], qH0 M) = qlim C_X3_isTrue (112, [some (qI x0), some (qA o), some (qI x2), some (qI (M (o + 2) x2)), none], [], qH0 M) := by
  refine Eq.trans (qlim_n (n := 1) (c' := (62, [some (qI x0), some (qA o), some (qI x2), none, none], [qA o], qH0 M)) rfl) ?_
  refine Eq.trans (qs_getR (z := o + 2) rfl (qSt_ty h_o) (by decide) (qSt_g3 h_o)) ?_
  refine Eq.trans (qlim_n (n := 1) (c' := (66, [some (qI x0), some (qA o), some (qI x2), none, none], [qI x2, qA (o + 2)], qH0 M)) rfl) ?_
  refine Eq.trans (qs_iaload rfl (qSt_t2 h_o) h1 h2) ?_
  exact (qlim_n (n := 2) (c' := (112, [some (qI x0), some (qA o), some (qI x2), some (qI (M (o + 2) x2)), none], [], qH0 M)) rfl)
set_option maxRecDepth 20000 in
theorem B_X3_isTrue_71 {M : qMem} {x0 o x2 : Int} (h_o : qSt o) (h1 : 0 ≤ x2) (h2 : x2 < 6) : qlim C_X3_isTrue (71, [some (qI x0), some (qA o), some (qI x2), none, none], [], qH0 M) = qlim C_X3_isTrue (112, [some (qI x0), some (qA o), some (qI x2), some (qI (M (o + 3) x2)), none], [], qH0 M) := by
  refine Eq.trans (qlim_n (n := 1) (c' := (72, [some (qI x0), some (qA o), some (qI x2), none, none], [qA o], qH0 M)) rfl) ?_
  refine Eq.trans (qs_getR (z := o + 3) rfl (qSt_ty h_o) (by decide) (qSt_g4 h_o)) ?_
  refine Eq.trans (qlim_n (n := 1) (c' := (76, [some (qI x0), some (qA o), some (qI x2), none, none], [qI x2, qA (o + 3)], qH0 M)) rfl) ?_
  refine Eq.trans (qs_iaload rfl (qSt_t3 h_o) h1 h2) ?_
  exact (qlim_n (n := 2) (c' := (112, [some (qI x0), some (qA o), some (qI x2), some (qI (M (o + 3) x2)), none], [], qH0 M)) rfl)
set_option maxRecDepth 20000 in
theorem B_X3_isTrue_81 {M : qMem} {x0 o x2 : Int} (h_o : qSt o) (h1 : 0 ≤ x2) (h2 : x2 < 6) : qlim C_X3_isTrue (81, [some (qI x0), some (qA o), some (qI x2), none, none], [], qH0 M) = qlim C_X3_isTrue (112, [some (qI x0), some (qA o), some (qI x2), some (qI (M (o + 4) x2)), none], [], qH0 M) := by
  refine Eq.trans (qlim_n (n := 1) (c' := (82, [some (qI x0), some (qA o), some (qI x2), none, none], [qA o], qH0 M)) rfl) ?_
  refine Eq.trans (qs_getR (z := o + 4) rfl (qSt_ty h_o) (by decide) (qSt_g5 h_o)) ?_
  refine Eq.trans (qlim_n (n := 1) (c' := (86, [some (qI x0), some (qA o), some (qI x2), none, none], [qI x2, qA (o + 4)], qH0 M)) rfl) ?_
  refine Eq.trans (qs_iaload rfl (qSt_t4 h_o) h1 h2) ?_
  exact (qlim_n (n := 2) (c' := (112, [some (qI x0), some (qA o), some (qI x2), some (qI (M (o + 4) x2)), none], [], qH0 M)) rfl)
set_option maxRecDepth 20000 in
theorem B_X3_isTrue_91 {M : qMem} {x0 o x2 : Int} (h_o : qSt o) (h1 : 0 ≤ x2) (h2 : x2 < 6) : qlim C_X3_isTrue (91, [some (qI x0), some (qA o), some (qI x2), none, none], [], qH0 M) = qlim C_X3_isTrue (112, [some (qI x0), some (qA o), some (qI x2), some (qI (kdiv (M (o + 5) x2) 10)), none], [], qH0 M) := by
  refine Eq.trans (qlim_n (n := 1) (c' := (92, [some (qI x0), some (qA o), some (qI x2), none, none], [qA o], qH0 M)) rfl) ?_
  refine Eq.trans (qs_getR (z := o + 5) rfl (qSt_ty h_o) (by decide) (qSt_g6 h_o)) ?_
  refine Eq.trans (qlim_n (n := 1) (c' := (96, [some (qI x0), some (qA o), some (qI x2), none, none], [qI x2, qA (o + 5)], qH0 M)) rfl) ?_
  refine Eq.trans (qs_iaload rfl (qSt_t5 h_o) h1 h2) ?_
  refine Eq.trans (qlim_n (n := 1) (c' := (99, [some (qI x0), some (qA o), some (qI x2), none, none], [qI 10, qI (M (o + 5) x2)], qH0 M)) rfl) ?_
  refine Eq.trans (qs_idiv rfl (by decide)) ?_
  exact (qlim_n (n := 2) (c' := (112, [some (qI x0), some (qA o), some (qI x2), some (qI (kdiv (M (o + 5) x2) 10)), none], [], qH0 M)) rfl)
set_option maxRecDepth 20000 in
theorem B_X3_isTrue_104 {M : qMem} {x0 o x2 : Int} (h_o : qSt o) : qlim C_X3_isTrue (104, [some (qI x0), some (qA o), some (qI x2), none, none], [], qH0 M) = qlim C_X3_isTrue (112, [some (qI x0), some (qA o), some (qI x2), some (qI (krem (M o 11) 10)), none], [], qH0 M) := by
  refine Eq.trans (qlim_n (n := 1) (c' := (105, [some (qI x0), some (qA o), some (qI x2), none, none], [qA o], qH0 M)) rfl) ?_
  refine Eq.trans (qs_getI rfl (qSt_ty h_o) (by decide)) ?_
  refine Eq.trans (qlim_n (n := 1) (c' := (110, [some (qI x0), some (qA o), some (qI x2), none, none], [qI 10, qI (M o 11)], qH0 M)) rfl) ?_
  refine Eq.trans (qs_irem rfl (by decide)) ?_
  exact (qlim_n (n := 1) (c' := (112, [some (qI x0), some (qA o), some (qI x2), some (qI (krem (M o 11) 10)), none], [], qH0 M)) rfl)
set_option maxRecDepth 20000 in
theorem B_X3_isTrue_112 {M : qMem} {x0 o x2 x3 : Int} (h_o : qSt o) : qlim C_X3_isTrue (112, [some (qI x0), some (qA o), some (qI x2), some (qI x3), none], [], qH0 M) = qlim C_X3_isTrue (qlk [(60, 152), (62, 164)] 176 (kand (kshr x0 8) 255), [some (qI x0), some (qA o), some (qI x2), some (qI x3), some (qI (kshr x0 16))], [], qH0 M) := (qlim_n (n := 10) (c' := (qlk [(60, 152), (62, 164)] 176 (kand (kshr x0 8) 255), [some (qI x0), some (qA o), some (qI x2), some (qI x3), some (qI (kshr x0 16))], [], qH0 M)) rfl)
set_option maxRecDepth 20000 in
theorem B_X3_isTrue_152 {M : qMem} {x0 o x2 x3 x4 : Int} (h_o : qSt o) : qlim C_X3_isTrue (152, [some (qI x0), some (qA o), some (qI x2), some (qI x3), some (qI x4)], [], qH0 M) = qlim C_X3_isTrue ((if x4 ≤ x3 then 162 else 158), [some (qI x0), some (qA o), some (qI x2), some (qI x3), some (qI x4)], [], qH0 M) := (qlim_n (n := 3) (c' := ((if x4 ≤ x3 then 162 else 158), [some (qI x0), some (qA o), some (qI x2), some (qI x3), some (qI x4)], [], qH0 M)) rfl)
set_option maxRecDepth 20000 in
theorem B_X3_isTrue_158 {M : qMem} {x0 o x2 x3 x4 : Int} (h_o : qSt o) : qlim C_X3_isTrue (158, [some (qI x0), some (qA o), some (qI x2), some (qI x3), some (qI x4)], [], qH0 M) = qlim C_X3_isTrue (163, [some (qI x0), some (qA o), some (qI x2), some (qI x3), some (qI x4)], [qI 1], qH0 M) := (qlim_n (n := 2) (c' := (163, [some (qI x0), some (qA o), some (qI x2), some (qI x3), some (qI x4)], [qI 1], qH0 M)) rfl)
set_option maxRecDepth 20000 in
theorem B_X3_isTrue_162 {M : qMem} {x0 o x2 x3 x4 : Int} (h_o : qSt o) : qlim C_X3_isTrue (162, [some (qI x0), some (qA o), some (qI x2), some (qI x3), some (qI x4)], [], qH0 M) = qlim C_X3_isTrue (163, [some (qI x0), some (qA o), some (qI x2), some (qI x3), some (qI x4)], [qI 0], qH0 M) := (qlim_n (n := 1) (c' := (163, [some (qI x0), some (qA o), some (qI x2), some (qI x3), some (qI x4)], [qI 0], qH0 M)) rfl)
set_option maxRecDepth 20000 in
theorem B_X3_isTrue_163 {M : qMem} {x0 o x2 x3 x4 s0 : Int} (h_o : qSt o) (h1 : s0 = 0 ∨ s0 = 1) : qlim C_X3_isTrue (163, [some (qI x0), some (qA o), some (qI x2), some (qI x3), some (qI x4)], [qI s0], qH0 M) = some (some (qI s0), qH0 M) := (qs_retZ rfl h1)
set_option maxRecDepth 20000 in
theorem B_X3_isTrue_164 {M : qMem} {x0 o x2 x3 x4 : Int} (h_o : qSt o) : qlim C_X3_isTrue (164, [some (qI x0), some (qA o), some (qI x2), some (qI x3), some (qI x4)], [], qH0 M) = qlim C_X3_isTrue ((if x3 ≤ x4 then 174 else 170), [some (qI x0), some (qA o), some (qI x2), some (qI x3), some (qI x4)], [], qH0 M) := (qlim_n (n := 3) (c' := ((if x3 ≤ x4 then 174 else 170), [some (qI x0), some (qA o), some (qI x2), some (qI x3), some (qI x4)], [], qH0 M)) rfl)
set_option maxRecDepth 20000 in
theorem B_X3_isTrue_170 {M : qMem} {x0 o x2 x3 x4 : Int} (h_o : qSt o) : qlim C_X3_isTrue (170, [some (qI x0), some (qA o), some (qI x2), some (qI x3), some (qI x4)], [], qH0 M) = qlim C_X3_isTrue (175, [some (qI x0), some (qA o), some (qI x2), some (qI x3), some (qI x4)], [qI 1], qH0 M) := (qlim_n (n := 2) (c' := (175, [some (qI x0), some (qA o), some (qI x2), some (qI x3), some (qI x4)], [qI 1], qH0 M)) rfl)
set_option maxRecDepth 20000 in
theorem B_X3_isTrue_174 {M : qMem} {x0 o x2 x3 x4 : Int} (h_o : qSt o) : qlim C_X3_isTrue (174, [some (qI x0), some (qA o), some (qI x2), some (qI x3), some (qI x4)], [], qH0 M) = qlim C_X3_isTrue (175, [some (qI x0), some (qA o), some (qI x2), some (qI x3), some (qI x4)], [qI 0], qH0 M) := (qlim_n (n := 1) (c' := (175, [some (qI x0), some (qA o), some (qI x2), some (qI x3), some (qI x4)], [qI 0], qH0 M)) rfl)
set_option maxRecDepth 20000 in
theorem B_X3_isTrue_175 {M : qMem} {x0 o x2 x3 x4 s0 : Int} (h_o : qSt o) (h1 : s0 = 0 ∨ s0 = 1) : qlim C_X3_isTrue (175, [some (qI x0), some (qA o), some (qI x2), some (qI x3), some (qI x4)], [qI s0], qH0 M) = some (some (qI s0), qH0 M) := (qs_retZ rfl h1)
set_option maxRecDepth 20000 in
theorem B_X3_isTrue_176 {M : qMem} {x0 o x2 x3 x4 : Int} (h_o : qSt o) : qlim C_X3_isTrue (176, [some (qI x0), some (qA o), some (qI x2), some (qI x3), some (qI x4)], [], qH0 M) = qlim C_X3_isTrue ((if ¬ x3 = x4 then 186 else 182), [some (qI x0), some (qA o), some (qI x2), some (qI x3), some (qI x4)], [], qH0 M) := (qlim_n (n := 3) (c' := ((if ¬ x3 = x4 then 186 else 182), [some (qI x0), some (qA o), some (qI x2), some (qI x3), some (qI x4)], [], qH0 M)) rfl)
set_option maxRecDepth 20000 in
theorem B_X3_isTrue_182 {M : qMem} {x0 o x2 x3 x4 : Int} (h_o : qSt o) : qlim C_X3_isTrue (182, [some (qI x0), some (qA o), some (qI x2), some (qI x3), some (qI x4)], [], qH0 M) = qlim C_X3_isTrue (187, [some (qI x0), some (qA o), some (qI x2), some (qI x3), some (qI x4)], [qI 1], qH0 M) := (qlim_n (n := 2) (c' := (187, [some (qI x0), some (qA o), some (qI x2), some (qI x3), some (qI x4)], [qI 1], qH0 M)) rfl)
set_option maxRecDepth 20000 in
theorem B_X3_isTrue_186 {M : qMem} {x0 o x2 x3 x4 : Int} (h_o : qSt o) : qlim C_X3_isTrue (186, [some (qI x0), some (qA o), some (qI x2), some (qI x3), some (qI x4)], [], qH0 M) = qlim C_X3_isTrue (187, [some (qI x0), some (qA o), some (qI x2), some (qI x3), some (qI x4)], [qI 0], qH0 M) := (qlim_n (n := 1) (c' := (187, [some (qI x0), some (qA o), some (qI x2), some (qI x3), some (qI x4)], [qI 0], qH0 M)) rfl)
set_option maxRecDepth 20000 in
theorem B_X3_isTrue_187 {M : qMem} {x0 o x2 x3 x4 s0 : Int} (h_o : qSt o) (h1 : s0 = 0 ∨ s0 = 1) : qlim C_X3_isTrue (187, [some (qI x0), some (qA o), some (qI x2), some (qI x3), some (qI x4)], [qI s0], qH0 M) = some (some (qI s0), qH0 M) := (qs_retZ rfl h1)
theorem E_X3_isTrue {h : qH} {x0 o x2 : Int} : S_X3_isTrue [qI x0, qA o, qI x2] h = qlim C_X3_isTrue (0, [some (qI x0), some (qA o), some (qI x2), none, none], [], h) := qM_at (Nat.le_of_ble_eq_true rfl) rfl
set_option maxRecDepth 20000 in
theorem B_X3_takesText_0 {M : qMem} {g x1 x2 : Int} {n_x1 : Nat} (h_g : qHl g) (h1 : qty (qH0 M) x1 = (101, n_x1)) (h2 : n_x1 ≤ 2147483647) (h3 : 0 ≤ (qup M g 2 (min x2 (min (n_x1 : Int) 100))) g 2) (h4 : 0 + (qup M g 2 (min x2 (min (n_x1 : Int) 100))) g 2 ≤ n_x1) (h5 : 0 + (qup M g 2 (min x2 (min (n_x1 : Int) 100))) g 2 ≤ 100) : qlim C_X3_takesText (0, [some (qA g), some (qA x1), some (qI x2), none, none, none], [], qH0 M) = qlim C_X3_takesText (55, [some (qA g), some (qA x1), some (qI x2), some (qI 0), none, none], [], qH0 (qup (qup (qup (qup (qcp (qup M g 2 (min x2 (min (n_x1 : Int) 100))) x1 0 (g + 1) 0 ((qup M g 2 (min x2 (min (n_x1 : Int) 100))) g 2)) g 6 0) g 3 0) g 4 50) g 5 0)) := by
  refine Eq.trans (qlim_n (n := 3) (c' := (3, [some (qA g), some (qA x1), some (qI x2), none, none, none], [qA x1, qI x2, qA g], qH0 M)) rfl) ?_
  refine Eq.trans (qs_alen rfl h1 (by decide) h2) ?_
  refine Eq.trans (qlim_n (n := 1) (c' := (5, [some (qA g), some (qA x1), some (qI x2), none, none, none], [qA g, qI (n_x1 : Int), qI x2, qA g], qH0 M)) rfl) ?_
  refine Eq.trans (qs_getR (z := g + 1) rfl (qHl_ty h_g) (by decide) (qHl_g0 h_g)) ?_
  refine Eq.trans (qs_alen rfl (qHl_t1 h_g) (by decide) (by decide)) ?_
  refine Eq.trans (qlim_n (n := 2) (c' := (15, [some (qA g), some (qA x1), some (qI x2), none, none, none], [qI (min x2 (min (n_x1 : Int) 100)), qA g], qH0 M)) rfl) ?_
  refine Eq.trans (qs_putI rfl (qHl_ty h_g) (by decide)) ?_
  refine Eq.trans (qlim_n (n := 3) (c' := (21, [some (qA g), some (qA x1), some (qI x2), none, none, none], [qA g, qI 0, qA x1], qH0 (qup M g 2 (min x2 (min (n_x1 : Int) 100))))) rfl) ?_
  refine Eq.trans (qs_getR (z := g + 1) rfl (qHl_ty h_g) (by decide) (qHl_g0 h_g)) ?_
  refine Eq.trans (qlim_n (n := 2) (c' := (26, [some (qA g), some (qA x1), some (qI x2), none, none, none], [qA g, qI 0, qA (g + 1), qI 0, qA x1], qH0 (qup M g 2 (min x2 (min (n_x1 : Int) 100))))) rfl) ?_
  refine Eq.trans (qs_getI rfl (qHl_ty h_g) (by decide)) ?_
  refine Eq.trans (qs_copy rfl h1 (qHl_t1 h_g) (by decide) (by decide) h3 h4 h5 (by decide)) ?_
  refine Eq.trans (qlim_n (n := 2) (c' := (34, [some (qA g), some (qA x1), some (qI x2), none, none, none], [qI 0, qA g], qH0 (qcp (qup M g 2 (min x2 (min (n_x1 : Int) 100))) x1 0 (g + 1) 0 ((qup M g 2 (min x2 (min (n_x1 : Int) 100))) g 2)))) rfl) ?_
  refine Eq.trans (qs_putI rfl (qHl_ty h_g) (by decide)) ?_
  refine Eq.trans (qlim_n (n := 2) (c' := (39, [some (qA g), some (qA x1), some (qI x2), none, none, none], [qI 0, qA g], qH0 (qup (qcp (qup M g 2 (min x2 (min (n_x1 : Int) 100))) x1 0 (g + 1) 0 ((qup M g 2 (min x2 (min (n_x1 : Int) 100))) g 2)) g 6 0))) rfl) ?_
  refine Eq.trans (qs_putI rfl (qHl_ty h_g) (by decide)) ?_
  refine Eq.trans (qlim_n (n := 2) (c' := (45, [some (qA g), some (qA x1), some (qI x2), none, none, none], [qI 50, qA g], qH0 (qup (qup (qcp (qup M g 2 (min x2 (min (n_x1 : Int) 100))) x1 0 (g + 1) 0 ((qup M g 2 (min x2 (min (n_x1 : Int) 100))) g 2)) g 6 0) g 3 0))) rfl) ?_
  refine Eq.trans (qs_putI rfl (qHl_ty h_g) (by decide)) ?_
  refine Eq.trans (qlim_n (n := 2) (c' := (50, [some (qA g), some (qA x1), some (qI x2), none, none, none], [qI 0, qA g], qH0 (qup (qup (qup (qcp (qup M g 2 (min x2 (min (n_x1 : Int) 100))) x1 0 (g + 1) 0 ((qup M g 2 (min x2 (min (n_x1 : Int) 100))) g 2)) g 6 0) g 3 0) g 4 50))) rfl) ?_
  refine Eq.trans (qs_putI rfl (qHl_ty h_g) (by decide)) ?_
  exact (qlim_n (n := 2) (c' := (55, [some (qA g), some (qA x1), some (qI x2), some (qI 0), none, none], [], qH0 (qup (qup (qup (qup (qcp (qup M g 2 (min x2 (min (n_x1 : Int) 100))) x1 0 (g + 1) 0 ((qup M g 2 (min x2 (min (n_x1 : Int) 100))) g 2)) g 6 0) g 3 0) g 4 50) g 5 0))) rfl)
set_option maxRecDepth 20000 in
theorem B_X3_takesText_55 {M : qMem} {g x1 x2 x3 : Int} {x4 x5 : Option qV} (h_g : qHl g) : qlim C_X3_takesText (55, [some (qA g), some (qA x1), some (qI x2), some (qI x3), x4, x5], [], qH0 M) = qlim C_X3_takesText ((if 10 ≤ x3 then 192 else 61), [some (qA g), some (qA x1), some (qI x2), some (qI x3), x4, x5], [], qH0 M) := (qlim_n (n := 3) (c' := ((if 10 ≤ x3 then 192 else 61), [some (qA g), some (qA x1), some (qI x2), some (qI x3), x4, x5], [], qH0 M)) rfl)
set_option maxRecDepth 20000 in
theorem B_X3_takesText_61 {M : qMem} {g x1 x2 x3 : Int} {x4 x5 : Option qV} (h_g : qHl g) : qlim C_X3_takesText (61, [some (qA g), some (qA x1), some (qI x2), some (qI x3), x4, x5], [], qH0 M) = qlim C_X3_takesText ((if x3 = 0 then 74 else 65), [some (qA g), some (qA x1), some (qI x2), some (qI x3), x4, x5], [], qH0 M) := (qlim_n (n := 2) (c' := ((if x3 = 0 then 74 else 65), [some (qA g), some (qA x1), some (qI x2), some (qI x3), x4, x5], [], qH0 M)) rfl)
set_option maxRecDepth 20000 in
theorem B_X3_takesText_65 {M : qMem} {g x1 x2 x3 : Int} {x4 x5 : Option qV} (h_g : qHl g) : qlim C_X3_takesText (65, [some (qA g), some (qA x1), some (qI x2), some (qI x3), x4, x5], [], qH0 M) = qbd (S_X3_takesSign [qA g, qI 59] (qH0 M)) (fun r h' => qlim C_X3_takesText (71, [some (qA g), some (qA x1), some (qI x2), some (qI x3), x4, x5], r.toList ++ [], h')) := by
  refine Eq.trans (qlim_n (n := 2) (c' := (68, [some (qA g), some (qA x1), some (qI x2), some (qI x3), x4, x5], [qI 59, qA g], qH0 M)) rfl) ?_
  exact (qlim_callv (n := 1) rfl rfl rfl (Nat.le_of_ble_eq_true rfl) (Nat.le_of_ble_eq_true rfl) (by rw [(qHl_ty h_g)]; rfl))
set_option maxRecDepth 20000 in
theorem B_X3_takesText_71 {M : qMem} {g x1 x2 x3 s0 : Int} {x4 x5 : Option qV} (h_g : qHl g) : qlim C_X3_takesText (71, [some (qA g), some (qA x1), some (qI x2), some (qI x3), x4, x5], [qI s0], qH0 M) = qlim C_X3_takesText ((if s0 = 0 then 192 else 74), [some (qA g), some (qA x1), some (qI x2), some (qI x3), x4, x5], [], qH0 M) := (qlim_n (n := 1) (c' := ((if s0 = 0 then 192 else 74), [some (qA g), some (qA x1), some (qI x2), some (qI x3), x4, x5], [], qH0 M)) rfl)
set_option maxRecDepth 20000 in
theorem B_X3_takesText_74 {M : qMem} {g x1 x2 x3 : Int} {x4 x5 : Option qV} (h_g : qHl g) : qlim C_X3_takesText (74, [some (qA g), some (qA x1), some (qI x2), some (qI x3), x4, x5], [], qH0 M) = qbd (S_X3_next [qA g] (qH0 M)) (fun r h' => qlim C_X3_takesText (78, [some (qA g), some (qA x1), some (qI x2), some (qI x3), x4, x5], r.toList ++ [], h')) := by
  refine Eq.trans (qlim_n (n := 1) (c' := (75, [some (qA g), some (qA x1), some (qI x2), some (qI x3), x4, x5], [qA g], qH0 M)) rfl) ?_
  exact (qlim_callv (n := 0) rfl rfl rfl (Nat.le_of_ble_eq_true rfl) (Nat.le_of_ble_eq_true rfl) (by rw [(qHl_ty h_g)]; rfl))
set_option maxRecDepth 20000 in
theorem B_X3_takesText_78 {M : qMem} {g x1 x2 x3 s0 : Int} {x4 x5 : Option qV} (h_g : qHl g) : qlim C_X3_takesText (78, [some (qA g), some (qA x1), some (qI x2), some (qI x3), x4, x5], [qI s0], qH0 M) = qbd (S_X3_wordOf [qI s0] (qH0 M)) (fun r h' => qlim C_X3_takesText (86, [some (qA g), some (qA x1), some (qI x2), some (qI x3), some (qI s0), x5], r.toList ++ [qA g], h')) := by
  refine Eq.trans (qlim_n (n := 3) (c' := (83, [some (qA g), some (qA x1), some (qI x2), some (qI x3), some (qI s0), x5], [qI s0, qA g], qH0 M)) rfl) ?_
  exact (qlim_calls (n := 1) rfl rfl rfl (Nat.le_of_ble_eq_true rfl) (Nat.le_of_ble_eq_true rfl))
set_option maxRecDepth 20000 in
theorem B_X3_takesText_86 {M : qMem} {g x1 x2 x3 x4 r : Int} {x5 : Option qV} (h_g : qHl g) : qlim C_X3_takesText (86, [some (qA g), some (qA x1), some (qI x2), some (qI x3), some (qI x4), x5], [qA r, qA g], qH0 M) = qbd (S_X3_takesWord [qA g, qA r] (qH0 M)) (fun r h' => qlim C_X3_takesText (89, [some (qA g), some (qA x1), some (qI x2), some (qI x3), some (qI x4), x5], r.toList ++ [], h')) := (qlim_callv (n := 1) rfl rfl rfl (Nat.le_of_ble_eq_true rfl) (Nat.le_of_ble_eq_true rfl) (by rw [(qHl_ty h_g)]; rfl))
set_option maxRecDepth 20000 in
theorem B_X3_takesText_89 {M : qMem} {g x1 x2 x3 x4 s0 : Int} {x5 : Option qV} (h_g : qHl g) : qlim C_X3_takesText (89, [some (qA g), some (qA x1), some (qI x2), some (qI x3), some (qI x4), x5], [qI s0], qH0 M) = qlim C_X3_takesText ((if s0 = 0 then 101 else 92), [some (qA g), some (qA x1), some (qI x2), some (qI x3), some (qI x4), x5], [], qH0 M) := (qlim_n (n := 1) (c' := ((if s0 = 0 then 101 else 92), [some (qA g), some (qA x1), some (qI x2), some (qI x3), some (qI x4), x5], [], qH0 M)) rfl)
set_option maxRecDepth 20000 in
theorem B_X3_takesText_92 {M : qMem} {g x1 x2 x3 x4 : Int} {x5 : Option qV} (h_g : qHl g) : qlim C_X3_takesText (92, [some (qA g), some (qA x1), some (qI x2), some (qI x3), some (qI x4), x5], [], qH0 M) = qbd (S_X3_takesSign [qA g, qI 32] (qH0 M)) (fun r h' => qlim C_X3_takesText (98, [some (qA g), some (qA x1), some (qI x2), some (qI x3), some (qI x4), x5], r.toList ++ [], h')) := by
  refine Eq.trans (qlim_n (n := 2) (c' := (95, [some (qA g), some (qA x1), some (qI x2), some (qI x3), some (qI x4), x5], [qI 32, qA g], qH0 M)) rfl) ?_
  exact (qlim_callv (n := 1) rfl rfl rfl (Nat.le_of_ble_eq_true rfl) (Nat.le_of_ble_eq_true rfl) (by rw [(qHl_ty h_g)]; rfl))
set_option maxRecDepth 20000 in
theorem B_X3_takesText_98 {M : qMem} {g x1 x2 x3 x4 s0 : Int} {x5 : Option qV} (h_g : qHl g) : qlim C_X3_takesText (98, [some (qA g), some (qA x1), some (qI x2), some (qI x3), some (qI x4), x5], [qI s0], qH0 M) = qlim C_X3_takesText ((if ¬ s0 = 0 then 103 else 101), [some (qA g), some (qA x1), some (qI x2), some (qI x3), some (qI x4), x5], [], qH0 M) := (qlim_n (n := 1) (c' := ((if ¬ s0 = 0 then 103 else 101), [some (qA g), some (qA x1), some (qI x2), some (qI x3), some (qI x4), x5], [], qH0 M)) rfl)
set_option maxRecDepth 20000 in
theorem B_X3_takesText_101 {M : qMem} {g x1 x2 x3 x4 : Int} {x5 : Option qV} (h_g : qHl g) : qlim C_X3_takesText (101, [some (qA g), some (qA x1), some (qI x2), some (qI x3), some (qI x4), x5], [], qH0 M) = some (some (qI 0), qH0 M) := by
  refine Eq.trans (qlim_n (n := 1) (c' := (102, [some (qA g), some (qA x1), some (qI x2), some (qI x3), some (qI x4), x5], [qI 0], qH0 M)) rfl) ?_
  exact (qlim_ret rfl)
set_option maxRecDepth 20000 in
theorem B_X3_takesText_103 {M : qMem} {g x1 x2 x3 x4 : Int} {x5 : Option qV} (h_g : qHl g) : qlim C_X3_takesText (103, [some (qA g), some (qA x1), some (qI x2), some (qI x3), some (qI x4), x5], [], qH0 M) = qbd (S_X3_takesNumber [qA g] (qH0 M)) (fun r h' => qlim C_X3_takesText (107, [some (qA g), some (qA x1), some (qI x2), some (qI x3), some (qI x4), x5], r.toList ++ [], h')) := by
  refine Eq.trans (qlim_n (n := 1) (c' := (104, [some (qA g), some (qA x1), some (qI x2), some (qI x3), some (qI x4), x5], [qA g], qH0 M)) rfl) ?_
  exact (qlim_callv (n := 0) rfl rfl rfl (Nat.le_of_ble_eq_true rfl) (Nat.le_of_ble_eq_true rfl) (by rw [(qHl_ty h_g)]; rfl))
set_option maxRecDepth 20000 in
theorem B_X3_takesText_107 {M : qMem} {g x1 x2 x3 x4 s0 : Int} {x5 : Option qV} (h_g : qHl g) : qlim C_X3_takesText (107, [some (qA g), some (qA x1), some (qI x2), some (qI x3), some (qI x4), x5], [qI s0], qH0 M) = qlim C_X3_takesText ((if 0 ≤ s0 then 116 else 114), [some (qA g), some (qA x1), some (qI x2), some (qI x3), some (qI x4), some (qI s0)], [], qH0 M) := (qlim_n (n := 3) (c' := ((if 0 ≤ s0 then 116 else 114), [some (qA g), some (qA x1), some (qI x2), some (qI x3), some (qI x4), some (qI s0)], [], qH0 M)) rfl)
set_option maxRecDepth 20000 in
theorem B_X3_takesText_114 {M : qMem} {g x1 x2 x3 x4 x5 : Int} (h_g : qHl g) : qlim C_X3_takesText (114, [some (qA g), some (qA x1), some (qI x2), some (qI x3), some (qI x4), some (qI x5)], [], qH0 M) = some (some (qI 0), qH0 M) := by
  refine Eq.trans (qlim_n (n := 1) (c' := (115, [some (qA g), some (qA x1), some (qI x2), some (qI x3), some (qI x4), some (qI x5)], [qI 0], qH0 M)) rfl) ?_
  exact (qlim_ret rfl)
set_option maxRecDepth 20000 in
theorem B_X3_takesText_116 {M : qMem} {g x1 x2 x3 x4 x5 : Int} (h_g : qHl g) : qlim C_X3_takesText (116, [some (qA g), some (qA x1), some (qI x2), some (qI x3), some (qI x4), some (qI x5)], [], qH0 M) = qlim C_X3_takesText ((if ¬ x4 = 104 then 136 else 123), [some (qA g), some (qA x1), some (qI x2), some (qI x3), some (qI x4), some (qI x5)], [], qH0 M) := (qlim_n (n := 3) (c' := ((if ¬ x4 = 104 then 136 else 123), [some (qA g), some (qA x1), some (qI x2), some (qI x3), some (qI x4), some (qI x5)], [], qH0 M)) rfl)
set_option maxRecDepth 20000 in
theorem B_X3_takesText_123 {M : qMem} {g x1 x2 x3 x4 x5 : Int} (h_g : qHl g) : qlim C_X3_takesText (123, [some (qA g), some (qA x1), some (qI x2), some (qI x3), some (qI x4), some (qI x5)], [], qH0 M) = qlim C_X3_takesText (186, [some (qA g), some (qA x1), some (qI x2), some (qI x3), some (qI x4), some (qI x5)], [], qH0 (qup M g 4 (max 1 x5))) := by
  refine Eq.trans (qlim_n (n := 4) (c' := (130, [some (qA g), some (qA x1), some (qI x2), some (qI x3), some (qI x4), some (qI x5)], [qI (max 1 x5), qA g], qH0 M)) rfl) ?_
  refine Eq.trans (qs_putI rfl (qHl_ty h_g) (by decide)) ?_
  exact (qlim_n (n := 1) (c' := (186, [some (qA g), some (qA x1), some (qI x2), some (qI x3), some (qI x4), some (qI x5)], [], qH0 (qup M g 4 (max 1 x5)))) rfl)
set_option maxRecDepth 20000 in
theorem B_X3_takesText_136 {M : qMem} {g x1 x2 x3 x4 x5 : Int} (h_g : qHl g) : qlim C_X3_takesText (136, [some (qA g), some (qA x1), some (qI x2), some (qI x3), some (qI x4), some (qI x5)], [], qH0 M) = qlim C_X3_takesText ((if ¬ x4 = 112 then 152 else 143), [some (qA g), some (qA x1), some (qI x2), some (qI x3), some (qI x4), some (qI x5)], [], qH0 M) := (qlim_n (n := 3) (c' := ((if ¬ x4 = 112 then 152 else 143), [some (qA g), some (qA x1), some (qI x2), some (qI x3), some (qI x4), some (qI x5)], [], qH0 M)) rfl)
set_option maxRecDepth 20000 in
theorem B_X3_takesText_143 {M : qMem} {g x1 x2 x3 x4 x5 : Int} (h_g : qHl g) : qlim C_X3_takesText (143, [some (qA g), some (qA x1), some (qI x2), some (qI x3), some (qI x4), some (qI x5)], [], qH0 M) = qlim C_X3_takesText (186, [some (qA g), some (qA x1), some (qI x2), some (qI x3), some (qI x4), some (qI x5)], [], qH0 (qup M g 5 x5)) := by
  refine Eq.trans (qlim_n (n := 2) (c' := (146, [some (qA g), some (qA x1), some (qI x2), some (qI x3), some (qI x4), some (qI x5)], [qI x5, qA g], qH0 M)) rfl) ?_
  refine Eq.trans (qs_putI rfl (qHl_ty h_g) (by decide)) ?_
  exact (qlim_n (n := 1) (c' := (186, [some (qA g), some (qA x1), some (qI x2), some (qI x3), some (qI x4), some (qI x5)], [], qH0 (qup M g 5 x5))) rfl)
set_option maxRecDepth 20000 in
theorem B_X3_takesText_152 {M : qMem} {g x1 x2 x3 x4 x5 : Int} (h_g : qHl g) : qlim C_X3_takesText (152, [some (qA g), some (qA x1), some (qI x2), some (qI x3), some (qI x4), some (qI x5)], [], qH0 M) = qbd (S_X3_takesSign [qA g, qI 32] (qH0 M)) (fun r h' => qlim C_X3_takesText (158, [some (qA g), some (qA x1), some (qI x2), some (qI x3), some (qI x4), some (qI x5)], r.toList ++ [], h')) := by
  refine Eq.trans (qlim_n (n := 2) (c' := (155, [some (qA g), some (qA x1), some (qI x2), some (qI x3), some (qI x4), some (qI x5)], [qI 32, qA g], qH0 M)) rfl) ?_
  exact (qlim_callv (n := 1) rfl rfl rfl (Nat.le_of_ble_eq_true rfl) (Nat.le_of_ble_eq_true rfl) (by rw [(qHl_ty h_g)]; rfl))
set_option maxRecDepth 20000 in
theorem B_X3_takesText_158 {M : qMem} {g x1 x2 x3 x4 x5 s0 : Int} (h_g : qHl g) : qlim C_X3_takesText (158, [some (qA g), some (qA x1), some (qI x2), some (qI x3), some (qI x4), some (qI x5)], [qI s0], qH0 M) = qlim C_X3_takesText ((if s0 = 0 then 184 else 161), [some (qA g), some (qA x1), some (qI x2), some (qI x3), some (qI x4), some (qI x5)], [], qH0 M) := (qlim_n (n := 1) (c' := ((if s0 = 0 then 184 else 161), [some (qA g), some (qA x1), some (qI x2), some (qI x3), some (qI x4), some (qI x5)], [], qH0 M)) rfl)
set_option maxRecDepth 20000 in
theorem B_X3_takesText_161 {M : qMem} {g x1 x2 x3 x4 x5 : Int} (h_g : qHl g) : qlim C_X3_takesText (161, [some (qA g), some (qA x1), some (qI x2), some (qI x3), some (qI x4), some (qI x5)], [], qH0 M) = qbd (S_X3_takesEither [qA g, qI 0] (qH0 M)) (fun r h' => qlim C_X3_takesText (166, [some (qA g), some (qA x1), some (qI x2), some (qI x3), some (qI x4), some (qI x5)], r.toList ++ [], h')) := by
  refine Eq.trans (qlim_n (n := 2) (c' := (163, [some (qA g), some (qA x1), some (qI x2), some (qI x3), some (qI x4), some (qI x5)], [qI 0, qA g], qH0 M)) rfl) ?_
  exact (qlim_callv (n := 1) rfl rfl rfl (Nat.le_of_ble_eq_true rfl) (Nat.le_of_ble_eq_true rfl) (by rw [(qHl_ty h_g)]; rfl))
set_option maxRecDepth 20000 in
theorem B_X3_takesText_166 {M : qMem} {g x1 x2 x3 x4 x5 s0 : Int} (h_g : qHl g) : qlim C_X3_takesText (166, [some (qA g), some (qA x1), some (qI x2), some (qI x3), some (qI x4), some (qI x5)], [qI s0], qH0 M) = qlim C_X3_takesText ((if s0 = 0 then 184 else 169), [some (qA g), some (qA x1), some (qI x2), some (qI x3), some (qI x4), some (qI x5)], [], qH0 M) := (qlim_n (n := 1) (c' := ((if s0 = 0 then 184 else 169), [some (qA g), some (qA x1), some (qI x2), some (qI x3), some (qI x4), some (qI x5)], [], qH0 M)) rfl)
set_option maxRecDepth 20000 in
theorem B_X3_takesText_169 {M : qMem} {g x1 x2 x3 x4 x5 : Int} (h_g : qHl g) : qlim C_X3_takesText (169, [some (qA g), some (qA x1), some (qI x2), some (qI x3), some (qI x4), some (qI x5)], [], qH0 M) = qbd (S_X3_adds [qA g, qI (kor x4 (kshl x5 16))] (qH0 M)) (fun r h' => qlim C_X3_takesText (181, [some (qA g), some (qA x1), some (qI x2), some (qI x3), some (qI x4), some (qI x5)], r.toList ++ [], h')) := by
  refine Eq.trans (qlim_n (n := 6) (c' := (178, [some (qA g), some (qA x1), some (qI x2), some (qI x3), some (qI x4), some (qI x5)], [qI (kor x4 (kshl x5 16)), qA g], qH0 M)) rfl) ?_
  exact (qlim_callv (n := 1) rfl rfl rfl (Nat.le_of_ble_eq_true rfl) (Nat.le_of_ble_eq_true rfl) (by rw [(qHl_ty h_g)]; rfl))
set_option maxRecDepth 20000 in
theorem B_X3_takesText_181 {M : qMem} {g x1 x2 x3 x4 x5 : Int} (h_g : qHl g) : qlim C_X3_takesText (181, [some (qA g), some (qA x1), some (qI x2), some (qI x3), some (qI x4), some (qI x5)], [], qH0 M) = qlim C_X3_takesText (186, [some (qA g), some (qA x1), some (qI x2), some (qI x3), some (qI x4), some (qI x5)], [], qH0 M) := (qlim_n (n := 1) (c' := (186, [some (qA g), some (qA x1), some (qI x2), some (qI x3), some (qI x4), some (qI x5)], [], qH0 M)) rfl)
set_option maxRecDepth 20000 in
theorem B_X3_takesText_184 {M : qMem} {g x1 x2 x3 x4 x5 : Int} (h_g : qHl g) : qlim C_X3_takesText (184, [some (qA g), some (qA x1), some (qI x2), some (qI x3), some (qI x4), some (qI x5)], [], qH0 M) = some (some (qI 0), qH0 M) := by
  refine Eq.trans (qlim_n (n := 1) (c' := (185, [some (qA g), some (qA x1), some (qI x2), some (qI x3), some (qI x4), some (qI x5)], [qI 0], qH0 M)) rfl) ?_
  exact (qlim_ret rfl)
set_option maxRecDepth 20000 in
theorem B_X3_takesText_186 {M : qMem} {g x1 x2 x3 x4 x5 : Int} (h_g : qHl g) : qlim C_X3_takesText (186, [some (qA g), some (qA x1), some (qI x2), some (qI x3), some (qI x4), some (qI x5)], [], qH0 M) = qlim C_X3_takesText (55, [some (qA g), some (qA x1), some (qI x2), some (qI (kadd x3 1)), some (qI x4), some (qI x5)], [], qH0 M) := (qlim_n (n := 2) (c' := (55, [some (qA g), some (qA x1), some (qI x2), some (qI (kadd x3 1)), some (qI x4), some (qI x5)], [], qH0 M)) rfl)
set_option maxRecDepth 20000 in
theorem B_X3_takesText_192 {M : qMem} {g x1 x2 x3 : Int} {x4 x5 : Option qV} (h_g : qHl g) : qlim C_X3_takesText (192, [some (qA g), some (qA x1), some (qI x2), some (qI x3), x4, x5], [], qH0 M) = qlim C_X3_takesText ((if ¬ M g 6 = M g 2 then 207 else 203), [some (qA g), some (qA x1), some (qI x2), some (qI x3), x4, x5], [], qH0 M) := by
  refine Eq.trans (qlim_n (n := 1) (c' := (193, [some (qA g), some (qA x1), some (qI x2), some (qI x3), x4, x5], [qA g], qH0 M)) rfl) ?_
  refine Eq.trans (qs_getI rfl (qHl_ty h_g) (by decide)) ?_
  refine Eq.trans (qlim_n (n := 1) (c' := (197, [some (qA g), some (qA x1), some (qI x2), some (qI x3), x4, x5], [qA g, qI (M g 6)], qH0 M)) rfl) ?_
  refine Eq.trans (qs_getI rfl (qHl_ty h_g) (by decide)) ?_
  exact (qlim_n (n := 1) (c' := ((if ¬ M g 6 = M g 2 then 207 else 203), [some (qA g), some (qA x1), some (qI x2), some (qI x3), x4, x5], [], qH0 M)) rfl)
set_option maxRecDepth 20000 in
theorem B_X3_takesText_203 {M : qMem} {g x1 x2 x3 : Int} {x4 x5 : Option qV} (h_g : qHl g) : qlim C_X3_takesText (203, [some (qA g), some (qA x1), some (qI x2), some (qI x3), x4, x5], [], qH0 M) = qlim C_X3_takesText (208, [some (qA g), some (qA x1), some (qI x2), some (qI x3), x4, x5], [qI 1], qH0 M) := (qlim_n (n := 2) (c' := (208, [some (qA g), some (qA x1), some (qI x2), some (qI x3), x4, x5], [qI 1], qH0 M)) rfl)
set_option maxRecDepth 20000 in
theorem B_X3_takesText_207 {M : qMem} {g x1 x2 x3 : Int} {x4 x5 : Option qV} (h_g : qHl g) : qlim C_X3_takesText (207, [some (qA g), some (qA x1), some (qI x2), some (qI x3), x4, x5], [], qH0 M) = qlim C_X3_takesText (208, [some (qA g), some (qA x1), some (qI x2), some (qI x3), x4, x5], [qI 0], qH0 M) := (qlim_n (n := 1) (c' := (208, [some (qA g), some (qA x1), some (qI x2), some (qI x3), x4, x5], [qI 0], qH0 M)) rfl)
set_option maxRecDepth 20000 in
theorem B_X3_takesText_208 {M : qMem} {g x1 x2 x3 s0 : Int} {x4 x5 : Option qV} (h_g : qHl g) (h1 : s0 = 0 ∨ s0 = 1) : qlim C_X3_takesText (208, [some (qA g), some (qA x1), some (qI x2), some (qI x3), x4, x5], [qI s0], qH0 M) = some (some (qI s0), qH0 M) := (qs_retZ rfl h1)
theorem E_X3_takesText {h : qH} {g x1 x2 : Int} : S_X3_takesText [qA g, qA x1, qI x2] h = qlim C_X3_takesText (0, [some (qA g), some (qA x1), some (qI x2), none, none, none], [], h) := qM_at (Nat.le_of_ble_eq_true rfl) rfl
set_option maxRecDepth 20000 in
theorem B_X3_takesEither_0 {M : qMem} {g x1 : Int} (h_g : qHl g) {S_X3_takesBoth : qSem} : qlim (C_X3_takesEither S_X3_takesBoth) (0, [some (qA g), some (qI x1), none], [], qH0 M) = qbd (S_X3_takesBoth [qA g, qI x1] (qH0 M)) (fun r h' => qlim (C_X3_takesEither S_X3_takesBoth) (5, [some (qA g), some (qI x1), none], r.toList ++ [], h')) := by
  refine Eq.trans (qlim_n (n := 2) (c' := (2, [some (qA g), some (qI x1), none], [qI x1, qA g], qH0 M)) rfl) ?_
  exact (qlim_callv (n := 1) rfl rfl rfl (Nat.le_of_ble_eq_true rfl) (Nat.le_of_ble_eq_true rfl) (by rw [(qHl_ty h_g)]; rfl))
set_option maxRecDepth 20000 in
theorem B_X3_takesEither_5 {M : qMem} {g x1 s0 : Int} (h_g : qHl g) {S_X3_takesBoth : qSem} : qlim (C_X3_takesEither S_X3_takesBoth) (5, [some (qA g), some (qI x1), none], [qI s0], qH0 M) = qlim (C_X3_takesEither S_X3_takesBoth) ((if ¬ s0 = 0 then 10 else 8), [some (qA g), some (qI x1), none], [], qH0 M) := (qlim_n (n := 1) (c' := ((if ¬ s0 = 0 then 10 else 8), [some (qA g), some (qI x1), none], [], qH0 M)) rfl)
set_option maxRecDepth 20000 in
theorem B_X3_takesEither_8 {M : qMem} {g x1 : Int} (h_g : qHl g) {S_X3_takesBoth : qSem} : qlim (C_X3_takesEither S_X3_takesBoth) (8, [some (qA g), some (qI x1), none], [], qH0 M) = some (some (qI 0), qH0 M) := by
  refine Eq.trans (qlim_n (n := 1) (c' := (9, [some (qA g), some (qI x1), none], [qI 0], qH0 M)) rfl) ?_
  exact (qlim_ret rfl)
set_option maxRecDepth 20000 in
theorem B_X3_takesEither_10 {M : qMem} {g x1 : Int} (h_g : qHl g) {S_X3_takesBoth : qSem} : qlim (C_X3_takesEither S_X3_takesBoth) (10, [some (qA g), some (qI x1), none], [], qH0 M) = qlim (C_X3_takesEither S_X3_takesBoth) (12, [some (qA g), some (qI x1), some (qI 0)], [], qH0 M) := (qlim_n (n := 2) (c' := (12, [some (qA g), some (qI x1), some (qI 0)], [], qH0 M)) rfl)
set_option maxRecDepth 20000 in
theorem B_X3_takesEither_12 {M : qMem} {g x1 x2 : Int} (h_g : qHl g) {S_X3_takesBoth : qSem} : qlim (C_X3_takesEither S_X3_takesBoth) (12, [some (qA g), some (qI x1), some (qI x2)], [], qH0 M) = qlim (C_X3_takesEither S_X3_takesBoth) ((if 100 ≤ x2 then 49 else 18), [some (qA g), some (qI x1), some (qI x2)], [], qH0 M) := (qlim_n (n := 3) (c' := ((if 100 ≤ x2 then 49 else 18), [some (qA g), some (qI x1), some (qI x2)], [], qH0 M)) rfl)
set_option maxRecDepth 20000 in
theorem B_X3_takesEither_18 {M : qMem} {g x1 x2 : Int} (h_g : qHl g) {S_X3_takesBoth : qSem} : qlim (C_X3_takesEither S_X3_takesBoth) (18, [some (qA g), some (qI x1), some (qI x2)], [], qH0 M) = qbd (S_X3_takesSign [qA g, qI 124] (qH0 M)) (fun r h' => qlim (C_X3_takesEither S_X3_takesBoth) (24, [some (qA g), some (qI x1), some (qI x2)], r.toList ++ [], h')) := by
  refine Eq.trans (qlim_n (n := 2) (c' := (21, [some (qA g), some (qI x1), some (qI x2)], [qI 124, qA g], qH0 M)) rfl) ?_
  exact (qlim_callv (n := 1) rfl rfl rfl (Nat.le_of_ble_eq_true rfl) (Nat.le_of_ble_eq_true rfl) (by rw [(qHl_ty h_g)]; rfl))
set_option maxRecDepth 20000 in
theorem B_X3_takesEither_24 {M : qMem} {g x1 x2 s0 : Int} (h_g : qHl g) {S_X3_takesBoth : qSem} : qlim (C_X3_takesEither S_X3_takesBoth) (24, [some (qA g), some (qI x1), some (qI x2)], [qI s0], qH0 M) = qlim (C_X3_takesEither S_X3_takesBoth) ((if s0 = 0 then 49 else 27), [some (qA g), some (qI x1), some (qI x2)], [], qH0 M) := (qlim_n (n := 1) (c' := ((if s0 = 0 then 49 else 27), [some (qA g), some (qI x1), some (qI x2)], [], qH0 M)) rfl)
set_option maxRecDepth 20000 in
theorem B_X3_takesEither_27 {M : qMem} {g x1 x2 : Int} (h_g : qHl g) {S_X3_takesBoth : qSem} : qlim (C_X3_takesEither S_X3_takesBoth) (27, [some (qA g), some (qI x1), some (qI x2)], [], qH0 M) = qbd (S_X3_takesBoth [qA g, qI x1] (qH0 M)) (fun r h' => qlim (C_X3_takesEither S_X3_takesBoth) (32, [some (qA g), some (qI x1), some (qI x2)], r.toList ++ [], h')) := by
  refine Eq.trans (qlim_n (n := 2) (c' := (29, [some (qA g), some (qI x1), some (qI x2)], [qI x1, qA g], qH0 M)) rfl) ?_
  exact (qlim_callv (n := 1) rfl rfl rfl (Nat.le_of_ble_eq_true rfl) (Nat.le_of_ble_eq_true rfl) (by rw [(qHl_ty h_g)]; rfl))
set_option maxRecDepth 20000 in
theorem B_X3_takesEither_32 {M : qMem} {g x1 x2 s0 : Int} (h_g : qHl g) {S_X3_takesBoth : qSem} : qlim (C_X3_takesEither S_X3_takesBoth) (32, [some (qA g), some (qI x1), some (qI x2)], [qI s0], qH0 M) = qlim (C_X3_takesEither S_X3_takesBoth) ((if ¬ s0 = 0 then 37 else 35), [some (qA g), some (qI x1), some (qI x2)], [], qH0 M) := (qlim_n (n := 1) (c' := ((if ¬ s0 = 0 then 37 else 35), [some (qA g), some (qI x1), some (qI x2)], [], qH0 M)) rfl)
set_option maxRecDepth 20000 in
theorem B_X3_takesEither_35 {M : qMem} {g x1 x2 : Int} (h_g : qHl g) {S_X3_takesBoth : qSem} : qlim (C_X3_takesEither S_X3_takesBoth) (35, [some (qA g), some (qI x1), some (qI x2)], [], qH0 M) = some (some (qI 0), qH0 M) := by
  refine Eq.trans (qlim_n (n := 1) (c' := (36, [some (qA g), some (qI x1), some (qI x2)], [qI 0], qH0 M)) rfl) ?_
  exact (qlim_ret rfl)
set_option maxRecDepth 20000 in
theorem B_X3_takesEither_37 {M : qMem} {g x1 x2 : Int} (h_g : qHl g) {S_X3_takesBoth : qSem} : qlim (C_X3_takesEither S_X3_takesBoth) (37, [some (qA g), some (qI x1), some (qI x2)], [], qH0 M) = qbd (S_X3_adds [qA g, qI 124] (qH0 M)) (fun r h' => qlim (C_X3_takesEither S_X3_takesBoth) (43, [some (qA g), some (qI x1), some (qI x2)], r.toList ++ [], h')) := by
  refine Eq.trans (qlim_n (n := 2) (c' := (40, [some (qA g), some (qI x1), some (qI x2)], [qI 124, qA g], qH0 M)) rfl) ?_
  exact (qlim_callv (n := 1) rfl rfl rfl (Nat.le_of_ble_eq_true rfl) (Nat.le_of_ble_eq_true rfl) (by rw [(qHl_ty h_g)]; rfl))
set_option maxRecDepth 20000 in
theorem B_X3_takesEither_43 {M : qMem} {g x1 x2 : Int} (h_g : qHl g) {S_X3_takesBoth : qSem} : qlim (C_X3_takesEither S_X3_takesBoth) (43, [some (qA g), some (qI x1), some (qI x2)], [], qH0 M) = qlim (C_X3_takesEither S_X3_takesBoth) (12, [some (qA g), some (qI x1), some (qI (kadd x2 1))], [], qH0 M) := (qlim_n (n := 2) (c' := (12, [some (qA g), some (qI x1), some (qI (kadd x2 1))], [], qH0 M)) rfl)
set_option maxRecDepth 20000 in
theorem B_X3_takesEither_49 {M : qMem} {g x1 x2 : Int} (h_g : qHl g) {S_X3_takesBoth : qSem} : qlim (C_X3_takesEither S_X3_takesBoth) (49, [some (qA g), some (qI x1), some (qI x2)], [], qH0 M) = some (some (qI 1), qH0 M) := by
  refine Eq.trans (qlim_n (n := 1) (c' := (50, [some (qA g), some (qI x1), some (qI x2)], [qI 1], qH0 M)) rfl) ?_
  exact (qlim_ret rfl)
theorem E_X3_takesEither {h : qH} {g x1 : Int} {S_X3_takesBoth : qSem} : qM 3 (C_X3_takesEither S_X3_takesBoth) [qA g, qI x1] h = qlim (C_X3_takesEither S_X3_takesBoth) (0, [some (qA g), some (qI x1), none], [], h) := qM_at (Nat.le_of_ble_eq_true rfl) rfl
set_option maxRecDepth 20000 in
theorem B_X3_takesBoth_0 {M : qMem} {g x1 : Int} (h_g : qHl g) {S_X3_takesOne : qSem} : qlim (C_X3_takesBoth S_X3_takesOne) (0, [some (qA g), some (qI x1), none], [], qH0 M) = qbd (S_X3_takesOne [qA g, qI x1] (qH0 M)) (fun r h' => qlim (C_X3_takesBoth S_X3_takesOne) (5, [some (qA g), some (qI x1), none], r.toList ++ [], h')) := by
  refine Eq.trans (qlim_n (n := 2) (c' := (2, [some (qA g), some (qI x1), none], [qI x1, qA g], qH0 M)) rfl) ?_
  exact (qlim_callv (n := 1) rfl rfl rfl (Nat.le_of_ble_eq_true rfl) (Nat.le_of_ble_eq_true rfl) (by rw [(qHl_ty h_g)]; rfl))
set_option maxRecDepth 20000 in
theorem B_X3_takesBoth_5 {M : qMem} {g x1 s0 : Int} (h_g : qHl g) {S_X3_takesOne : qSem} : qlim (C_X3_takesBoth S_X3_takesOne) (5, [some (qA g), some (qI x1), none], [qI s0], qH0 M) = qlim (C_X3_takesBoth S_X3_takesOne) ((if ¬ s0 = 0 then 10 else 8), [some (qA g), some (qI x1), none], [], qH0 M) := (qlim_n (n := 1) (c' := ((if ¬ s0 = 0 then 10 else 8), [some (qA g), some (qI x1), none], [], qH0 M)) rfl)
set_option maxRecDepth 20000 in
theorem B_X3_takesBoth_8 {M : qMem} {g x1 : Int} (h_g : qHl g) {S_X3_takesOne : qSem} : qlim (C_X3_takesBoth S_X3_takesOne) (8, [some (qA g), some (qI x1), none], [], qH0 M) = some (some (qI 0), qH0 M) := by
  refine Eq.trans (qlim_n (n := 1) (c' := (9, [some (qA g), some (qI x1), none], [qI 0], qH0 M)) rfl) ?_
  exact (qlim_ret rfl)
set_option maxRecDepth 20000 in
theorem B_X3_takesBoth_10 {M : qMem} {g x1 : Int} (h_g : qHl g) {S_X3_takesOne : qSem} : qlim (C_X3_takesBoth S_X3_takesOne) (10, [some (qA g), some (qI x1), none], [], qH0 M) = qlim (C_X3_takesBoth S_X3_takesOne) (12, [some (qA g), some (qI x1), some (qI 0)], [], qH0 M) := (qlim_n (n := 2) (c' := (12, [some (qA g), some (qI x1), some (qI 0)], [], qH0 M)) rfl)
set_option maxRecDepth 20000 in
theorem B_X3_takesBoth_12 {M : qMem} {g x1 x2 : Int} (h_g : qHl g) {S_X3_takesOne : qSem} : qlim (C_X3_takesBoth S_X3_takesOne) (12, [some (qA g), some (qI x1), some (qI x2)], [], qH0 M) = qlim (C_X3_takesBoth S_X3_takesOne) ((if 100 ≤ x2 then 49 else 18), [some (qA g), some (qI x1), some (qI x2)], [], qH0 M) := (qlim_n (n := 3) (c' := ((if 100 ≤ x2 then 49 else 18), [some (qA g), some (qI x1), some (qI x2)], [], qH0 M)) rfl)
set_option maxRecDepth 20000 in
theorem B_X3_takesBoth_18 {M : qMem} {g x1 x2 : Int} (h_g : qHl g) {S_X3_takesOne : qSem} : qlim (C_X3_takesBoth S_X3_takesOne) (18, [some (qA g), some (qI x1), some (qI x2)], [], qH0 M) = qbd (S_X3_takesSign [qA g, qI 38] (qH0 M)) (fun r h' => qlim (C_X3_takesBoth S_X3_takesOne) (24, [some (qA g), some (qI x1), some (qI x2)], r.toList ++ [], h')) := by
  refine Eq.trans (qlim_n (n := 2) (c' := (21, [some (qA g), some (qI x1), some (qI x2)], [qI 38, qA g], qH0 M)) rfl) ?_
  exact (qlim_callv (n := 1) rfl rfl rfl (Nat.le_of_ble_eq_true rfl) (Nat.le_of_ble_eq_true rfl) (by rw [(qHl_ty h_g)]; rfl))
set_option maxRecDepth 20000 in
theorem B_X3_takesBoth_24 {M : qMem} {g x1 x2 s0 : Int} (h_g : qHl g) {S_X3_takesOne : qSem} : qlim (C_X3_takesBoth S_X3_takesOne) (24, [some (qA g), some (qI x1), some (qI x2)], [qI s0], qH0 M) = qlim (C_X3_takesBoth S_X3_takesOne) ((if s0 = 0 then 49 else 27), [some (qA g), some (qI x1), some (qI x2)], [], qH0 M) := (qlim_n (n := 1) (c' := ((if s0 = 0 then 49 else 27), [some (qA g), some (qI x1), some (qI x2)], [], qH0 M)) rfl)
set_option maxRecDepth 20000 in
theorem B_X3_takesBoth_27 {M : qMem} {g x1 x2 : Int} (h_g : qHl g) {S_X3_takesOne : qSem} : qlim (C_X3_takesBoth S_X3_takesOne) (27, [some (qA g), some (qI x1), some (qI x2)], [], qH0 M) = qbd (S_X3_takesOne [qA g, qI x1] (qH0 M)) (fun r h' => qlim (C_X3_takesBoth S_X3_takesOne) (32, [some (qA g), some (qI x1), some (qI x2)], r.toList ++ [], h')) := by
  refine Eq.trans (qlim_n (n := 2) (c' := (29, [some (qA g), some (qI x1), some (qI x2)], [qI x1, qA g], qH0 M)) rfl) ?_
  exact (qlim_callv (n := 1) rfl rfl rfl (Nat.le_of_ble_eq_true rfl) (Nat.le_of_ble_eq_true rfl) (by rw [(qHl_ty h_g)]; rfl))
set_option maxRecDepth 20000 in
theorem B_X3_takesBoth_32 {M : qMem} {g x1 x2 s0 : Int} (h_g : qHl g) {S_X3_takesOne : qSem} : qlim (C_X3_takesBoth S_X3_takesOne) (32, [some (qA g), some (qI x1), some (qI x2)], [qI s0], qH0 M) = qlim (C_X3_takesBoth S_X3_takesOne) ((if ¬ s0 = 0 then 37 else 35), [some (qA g), some (qI x1), some (qI x2)], [], qH0 M) := (qlim_n (n := 1) (c' := ((if ¬ s0 = 0 then 37 else 35), [some (qA g), some (qI x1), some (qI x2)], [], qH0 M)) rfl)
set_option maxRecDepth 20000 in
theorem B_X3_takesBoth_35 {M : qMem} {g x1 x2 : Int} (h_g : qHl g) {S_X3_takesOne : qSem} : qlim (C_X3_takesBoth S_X3_takesOne) (35, [some (qA g), some (qI x1), some (qI x2)], [], qH0 M) = some (some (qI 0), qH0 M) := by
  refine Eq.trans (qlim_n (n := 1) (c' := (36, [some (qA g), some (qI x1), some (qI x2)], [qI 0], qH0 M)) rfl) ?_
  exact (qlim_ret rfl)
set_option maxRecDepth 20000 in
theorem B_X3_takesBoth_37 {M : qMem} {g x1 x2 : Int} (h_g : qHl g) {S_X3_takesOne : qSem} : qlim (C_X3_takesBoth S_X3_takesOne) (37, [some (qA g), some (qI x1), some (qI x2)], [], qH0 M) = qbd (S_X3_adds [qA g, qI 38] (qH0 M)) (fun r h' => qlim (C_X3_takesBoth S_X3_takesOne) (43, [some (qA g), some (qI x1), some (qI x2)], r.toList ++ [], h')) := by
  refine Eq.trans (qlim_n (n := 2) (c' := (40, [some (qA g), some (qI x1), some (qI x2)], [qI 38, qA g], qH0 M)) rfl) ?_
  exact (qlim_callv (n := 1) rfl rfl rfl (Nat.le_of_ble_eq_true rfl) (Nat.le_of_ble_eq_true rfl) (by rw [(qHl_ty h_g)]; rfl))
set_option maxRecDepth 20000 in
theorem B_X3_takesBoth_43 {M : qMem} {g x1 x2 : Int} (h_g : qHl g) {S_X3_takesOne : qSem} : qlim (C_X3_takesBoth S_X3_takesOne) (43, [some (qA g), some (qI x1), some (qI x2)], [], qH0 M) = qlim (C_X3_takesBoth S_X3_takesOne) (12, [some (qA g), some (qI x1), some (qI (kadd x2 1))], [], qH0 M) := (qlim_n (n := 2) (c' := (12, [some (qA g), some (qI x1), some (qI (kadd x2 1))], [], qH0 M)) rfl)
set_option maxRecDepth 20000 in
theorem B_X3_takesBoth_49 {M : qMem} {g x1 x2 : Int} (h_g : qHl g) {S_X3_takesOne : qSem} : qlim (C_X3_takesBoth S_X3_takesOne) (49, [some (qA g), some (qI x1), some (qI x2)], [], qH0 M) = some (some (qI 1), qH0 M) := by
  refine Eq.trans (qlim_n (n := 1) (c' := (50, [some (qA g), some (qI x1), some (qI x2)], [qI 1], qH0 M)) rfl) ?_
  exact (qlim_ret rfl)
theorem E_X3_takesBoth {h : qH} {g x1 : Int} {S_X3_takesOne : qSem} : qM 3 (C_X3_takesBoth S_X3_takesOne) [qA g, qI x1] h = qlim (C_X3_takesBoth S_X3_takesOne) (0, [some (qA g), some (qI x1), none], [], h) := qM_at (Nat.le_of_ble_eq_true rfl) rfl
set_option maxRecDepth 20000 in
theorem B_X3_takesOne_0 {M : qMem} {g x1 : Int} (h_g : qHl g) {S_X3_takesEither S_X3_takesOne : qSem} : qlim (C_X3_takesOne S_X3_takesEither S_X3_takesOne) (0, [some (qA g), some (qI x1), none, none], [], qH0 M) = qbd (S_X3_next [qA g] (qH0 M)) (fun r h' => qlim (C_X3_takesOne S_X3_takesEither S_X3_takesOne) (4, [some (qA g), some (qI x1), none, none], r.toList ++ [], h')) := by
  refine Eq.trans (qlim_n (n := 1) (c' := (1, [some (qA g), some (qI x1), none, none], [qA g], qH0 M)) rfl) ?_
  exact (qlim_callv (n := 0) rfl rfl rfl (Nat.le_of_ble_eq_true rfl) (Nat.le_of_ble_eq_true rfl) (by rw [(qHl_ty h_g)]; rfl))
set_option maxRecDepth 20000 in
theorem B_X3_takesOne_4 {M : qMem} {g x1 s0 : Int} (h_g : qHl g) {S_X3_takesEither S_X3_takesOne : qSem} : qlim (C_X3_takesOne S_X3_takesEither S_X3_takesOne) (4, [some (qA g), some (qI x1), none, none], [qI s0], qH0 M) = qlim (C_X3_takesOne S_X3_takesEither S_X3_takesOne) ((if s0 = 33 then 22 else 11), [some (qA g), some (qI x1), some (qI s0), none], [], qH0 M) := (qlim_n (n := 4) (c' := ((if s0 = 33 then 22 else 11), [some (qA g), some (qI x1), some (qI s0), none], [], qH0 M)) rfl)
set_option maxRecDepth 20000 in
theorem B_X3_takesOne_11 {M : qMem} {g x1 x2 : Int} (h_g : qHl g) {S_X3_takesEither S_X3_takesOne : qSem} : qlim (C_X3_takesOne S_X3_takesEither S_X3_takesOne) (11, [some (qA g), some (qI x1), some (qI x2), none], [], qH0 M) = qlim (C_X3_takesOne S_X3_takesEither S_X3_takesOne) ((if x2 = 40 then 22 else 17), [some (qA g), some (qI x1), some (qI x2), none], [], qH0 M) := (qlim_n (n := 3) (c' := ((if x2 = 40 then 22 else 17), [some (qA g), some (qI x1), some (qI x2), none], [], qH0 M)) rfl)
set_option maxRecDepth 20000 in
theorem B_X3_takesOne_17 {M : qMem} {g x1 x2 : Int} (h_g : qHl g) {S_X3_takesEither S_X3_takesOne : qSem} : qlim (C_X3_takesOne S_X3_takesEither S_X3_takesOne) (17, [some (qA g), some (qI x1), some (qI x2), none], [], qH0 M) = qbd (S_X3_takesTest [qA g] (qH0 M)) (fun r h' => qlim (C_X3_takesOne S_X3_takesEither S_X3_takesOne) (21, [some (qA g), some (qI x1), some (qI x2), none], r.toList ++ [], h')) := by
  refine Eq.trans (qlim_n (n := 1) (c' := (18, [some (qA g), some (qI x1), some (qI x2), none], [qA g], qH0 M)) rfl) ?_
  exact (qlim_callv (n := 0) rfl rfl rfl (Nat.le_of_ble_eq_true rfl) (Nat.le_of_ble_eq_true rfl) (by rw [(qHl_ty h_g)]; rfl))
set_option maxRecDepth 20000 in
theorem B_X3_takesOne_21 {M : qMem} {g x1 x2 s0 : Int} (h_g : qHl g) (h1 : s0 = 0 ∨ s0 = 1) {S_X3_takesEither S_X3_takesOne : qSem} : qlim (C_X3_takesOne S_X3_takesEither S_X3_takesOne) (21, [some (qA g), some (qI x1), some (qI x2), none], [qI s0], qH0 M) = some (some (qI s0), qH0 M) := (qs_retZ rfl h1)
set_option maxRecDepth 20000 in
theorem B_X3_takesOne_22 {M : qMem} {g x1 x2 : Int} (h_g : qHl g) {S_X3_takesEither S_X3_takesOne : qSem} : qlim (C_X3_takesOne S_X3_takesEither S_X3_takesOne) (22, [some (qA g), some (qI x1), some (qI x2), none], [], qH0 M) = qlim (C_X3_takesOne S_X3_takesEither S_X3_takesOne) ((if x1 < 4 then 29 else 27), [some (qA g), some (qI x1), some (qI x2), none], [], qH0 M) := (qlim_n (n := 3) (c' := ((if x1 < 4 then 29 else 27), [some (qA g), some (qI x1), some (qI x2), none], [], qH0 M)) rfl)
set_option maxRecDepth 20000 in
theorem B_X3_takesOne_27 {M : qMem} {g x1 x2 : Int} (h_g : qHl g) {S_X3_takesEither S_X3_takesOne : qSem} : qlim (C_X3_takesOne S_X3_takesEither S_X3_takesOne) (27, [some (qA g), some (qI x1), some (qI x2), none], [], qH0 M) = some (some (qI 0), qH0 M) := by
  refine Eq.trans (qlim_n (n := 1) (c' := (28, [some (qA g), some (qI x1), some (qI x2), none], [qI 0], qH0 M)) rfl) ?_
  exact (qlim_ret rfl)
set_option maxRecDepth 20000 in
theorem B_X3_takesOne_29 {M : qMem} {g x1 x2 : Int} (h_g : qHl g) {S_X3_takesEither S_X3_takesOne : qSem} : qlim (C_X3_takesOne S_X3_takesEither S_X3_takesOne) (29, [some (qA g), some (qI x1), some (qI x2), none], [], qH0 M) = qlim (C_X3_takesOne S_X3_takesEither S_X3_takesOne) ((if ¬ x2 = 40 then 70 else 45), [some (qA g), some (qI x1), some (qI x2), none], [], qH0 (qup M g 6 (kadd (M g 6) 1))) := by
  refine Eq.trans (qlim_n (n := 2) (c' := (31, [some (qA g), some (qI x1), some (qI x2), none], [qA g, qA g], qH0 M)) rfl) ?_
  refine Eq.trans (qs_getI rfl (qHl_ty h_g) (by decide)) ?_
  refine Eq.trans (qlim_n (n := 2) (c' := (36, [some (qA g), some (qI x1), some (qI x2), none], [qI (kadd (M g 6) 1), qA g], qH0 M)) rfl) ?_
  refine Eq.trans (qs_putI rfl (qHl_ty h_g) (by decide)) ?_
  exact (qlim_n (n := 3) (c' := ((if ¬ x2 = 40 then 70 else 45), [some (qA g), some (qI x1), some (qI x2), none], [], qH0 (qup M g 6 (kadd (M g 6) 1)))) rfl)
set_option maxRecDepth 20000 in
theorem B_X3_takesOne_45 {M : qMem} {g x1 x2 : Int} (h_g : qHl g) {S_X3_takesEither S_X3_takesOne : qSem} : qlim (C_X3_takesOne S_X3_takesEither S_X3_takesOne) (45, [some (qA g), some (qI x1), some (qI x2), none], [], qH0 M) = qbd (S_X3_takesEither [qA g, qI (kadd x1 1)] (qH0 M)) (fun r h' => qlim (C_X3_takesOne S_X3_takesEither S_X3_takesOne) (52, [some (qA g), some (qI x1), some (qI x2), none], r.toList ++ [], h')) := by
  refine Eq.trans (qlim_n (n := 4) (c' := (49, [some (qA g), some (qI x1), some (qI x2), none], [qI (kadd x1 1), qA g], qH0 M)) rfl) ?_
  exact (qlim_callv (n := 1) rfl rfl rfl (Nat.le_of_ble_eq_true rfl) (Nat.le_of_ble_eq_true rfl) (by rw [(qHl_ty h_g)]; rfl))
set_option maxRecDepth 20000 in
theorem B_X3_takesOne_52 {M : qMem} {g x1 x2 s0 : Int} (h_g : qHl g) {S_X3_takesEither S_X3_takesOne : qSem} : qlim (C_X3_takesOne S_X3_takesEither S_X3_takesOne) (52, [some (qA g), some (qI x1), some (qI x2), none], [qI s0], qH0 M) = qlim (C_X3_takesOne S_X3_takesEither S_X3_takesOne) ((if s0 = 0 then 68 else 55), [some (qA g), some (qI x1), some (qI x2), none], [], qH0 M) := (qlim_n (n := 1) (c' := ((if s0 = 0 then 68 else 55), [some (qA g), some (qI x1), some (qI x2), none], [], qH0 M)) rfl)
set_option maxRecDepth 20000 in
theorem B_X3_takesOne_55 {M : qMem} {g x1 x2 : Int} (h_g : qHl g) {S_X3_takesEither S_X3_takesOne : qSem} : qlim (C_X3_takesOne S_X3_takesEither S_X3_takesOne) (55, [some (qA g), some (qI x1), some (qI x2), none], [], qH0 M) = qbd (S_X3_takesSign [qA g, qI 41] (qH0 M)) (fun r h' => qlim (C_X3_takesOne S_X3_takesEither S_X3_takesOne) (61, [some (qA g), some (qI x1), some (qI x2), none], r.toList ++ [], h')) := by
  refine Eq.trans (qlim_n (n := 2) (c' := (58, [some (qA g), some (qI x1), some (qI x2), none], [qI 41, qA g], qH0 M)) rfl) ?_
  exact (qlim_callv (n := 1) rfl rfl rfl (Nat.le_of_ble_eq_true rfl) (Nat.le_of_ble_eq_true rfl) (by rw [(qHl_ty h_g)]; rfl))
set_option maxRecDepth 20000 in
theorem B_X3_takesOne_61 {M : qMem} {g x1 x2 s0 : Int} (h_g : qHl g) {S_X3_takesEither S_X3_takesOne : qSem} : qlim (C_X3_takesOne S_X3_takesEither S_X3_takesOne) (61, [some (qA g), some (qI x1), some (qI x2), none], [qI s0], qH0 M) = qlim (C_X3_takesOne S_X3_takesEither S_X3_takesOne) ((if s0 = 0 then 68 else 64), [some (qA g), some (qI x1), some (qI x2), none], [], qH0 M) := (qlim_n (n := 1) (c' := ((if s0 = 0 then 68 else 64), [some (qA g), some (qI x1), some (qI x2), none], [], qH0 M)) rfl)
set_option maxRecDepth 20000 in
theorem B_X3_takesOne_64 {M : qMem} {g x1 x2 : Int} (h_g : qHl g) {S_X3_takesEither S_X3_takesOne : qSem} : qlim (C_X3_takesOne S_X3_takesEither S_X3_takesOne) (64, [some (qA g), some (qI x1), some (qI x2), none], [], qH0 M) = qlim (C_X3_takesOne S_X3_takesEither S_X3_takesOne) (69, [some (qA g), some (qI x1), some (qI x2), none], [qI 1], qH0 M) := (qlim_n (n := 2) (c' := (69, [some (qA g), some (qI x1), some (qI x2), none], [qI 1], qH0 M)) rfl)
set_option maxRecDepth 20000 in
theorem B_X3_takesOne_68 {M : qMem} {g x1 x2 : Int} (h_g : qHl g) {S_X3_takesEither S_X3_takesOne : qSem} : qlim (C_X3_takesOne S_X3_takesEither S_X3_takesOne) (68, [some (qA g), some (qI x1), some (qI x2), none], [], qH0 M) = qlim (C_X3_takesOne S_X3_takesEither S_X3_takesOne) (69, [some (qA g), some (qI x1), some (qI x2), none], [qI 0], qH0 M) := (qlim_n (n := 1) (c' := (69, [some (qA g), some (qI x1), some (qI x2), none], [qI 0], qH0 M)) rfl)
set_option maxRecDepth 20000 in
theorem B_X3_takesOne_69 {M : qMem} {g x1 x2 s0 : Int} (h_g : qHl g) (h1 : s0 = 0 ∨ s0 = 1) {S_X3_takesEither S_X3_takesOne : qSem} : qlim (C_X3_takesOne S_X3_takesEither S_X3_takesOne) (69, [some (qA g), some (qI x1), some (qI x2), none], [qI s0], qH0 M) = some (some (qI s0), qH0 M) := (qs_retZ rfl h1)
set_option maxRecDepth 20000 in
theorem B_X3_takesOne_70 {M : qMem} {g x1 x2 : Int} (h_g : qHl g) {S_X3_takesEither S_X3_takesOne : qSem} : qlim (C_X3_takesOne S_X3_takesEither S_X3_takesOne) (70, [some (qA g), some (qI x1), some (qI x2), none], [], qH0 M) = qbd (S_X3_takesOne [qA g, qI (kadd x1 1)] (qH0 M)) (fun r h' => qlim (C_X3_takesOne S_X3_takesEither S_X3_takesOne) (77, [some (qA g), some (qI x1), some (qI x2), none], r.toList ++ [], h')) := by
  refine Eq.trans (qlim_n (n := 4) (c' := (74, [some (qA g), some (qI x1), some (qI x2), none], [qI (kadd x1 1), qA g], qH0 M)) rfl) ?_
  exact (qlim_callv (n := 1) rfl rfl rfl (Nat.le_of_ble_eq_true rfl) (Nat.le_of_ble_eq_true rfl) (by rw [(qHl_ty h_g)]; rfl))
set_option maxRecDepth 20000 in
theorem B_X3_takesOne_77 {M : qMem} {g x1 x2 s0 : Int} (h_g : qHl g) {S_X3_takesEither S_X3_takesOne : qSem} : qlim (C_X3_takesOne S_X3_takesEither S_X3_takesOne) (77, [some (qA g), some (qI x1), some (qI x2), none], [qI s0], qH0 M) = qbd (S_X3_adds [qA g, qI 33] (qH0 M)) (fun r h' => qlim (C_X3_takesOne S_X3_takesEither S_X3_takesOne) (84, [some (qA g), some (qI x1), some (qI x2), some (qI s0)], r.toList ++ [], h')) := by
  refine Eq.trans (qlim_n (n := 3) (c' := (81, [some (qA g), some (qI x1), some (qI x2), some (qI s0)], [qI 33, qA g], qH0 M)) rfl) ?_
  exact (qlim_callv (n := 1) rfl rfl rfl (Nat.le_of_ble_eq_true rfl) (Nat.le_of_ble_eq_true rfl) (by rw [(qHl_ty h_g)]; rfl))
set_option maxRecDepth 20000 in
theorem B_X3_takesOne_84 {M : qMem} {g x1 x2 x3 : Int} (h_g : qHl g) (h1 : x3 = 0 ∨ x3 = 1) {S_X3_takesEither S_X3_takesOne : qSem} : qlim (C_X3_takesOne S_X3_takesEither S_X3_takesOne) (84, [some (qA g), some (qI x1), some (qI x2), some (qI x3)], [], qH0 M) = some (some (qI x3), qH0 M) := by
  refine Eq.trans (qlim_n (n := 1) (c' := (85, [some (qA g), some (qI x1), some (qI x2), some (qI x3)], [qI x3], qH0 M)) rfl) ?_
  exact (qs_retZ rfl h1)
theorem E_X3_takesOne {h : qH} {g x1 : Int} {S_X3_takesEither S_X3_takesOne : qSem} : qM 4 (C_X3_takesOne S_X3_takesEither S_X3_takesOne) [qA g, qI x1] h = qlim (C_X3_takesOne S_X3_takesEither S_X3_takesOne) (0, [some (qA g), some (qI x1), none, none], [], h) := qM_at (Nat.le_of_ble_eq_true rfl) rfl
set_option maxRecDepth 20000 in
theorem B_X3_takesTest_0 {M : qMem} {g : Int} (h_g : qHl g) : qlim C_X3_takesTest (0, [some (qA g), none, none, none], [], qH0 M) = qbd (S_X3_next [qA g] (qH0 M)) (fun r h' => qlim C_X3_takesTest (4, [some (qA g), none, none, none], r.toList ++ [], h')) := by
  refine Eq.trans (qlim_n (n := 1) (c' := (1, [some (qA g), none, none, none], [qA g], qH0 M)) rfl) ?_
  exact (qlim_callv (n := 0) rfl rfl rfl (Nat.le_of_ble_eq_true rfl) (Nat.le_of_ble_eq_true rfl) (by rw [(qHl_ty h_g)]; rfl))
set_option maxRecDepth 20000 in
theorem B_X3_takesTest_4 {M : qMem} {g s0 : Int} (h_g : qHl g) : qlim C_X3_takesTest (4, [some (qA g), none, none, none], [qI s0], qH0 M) = qbd (S_X3_isAskedFor [qI s0] (qH0 M)) (fun r h' => qlim C_X3_takesTest (9, [some (qA g), some (qI s0), none, none], r.toList ++ [], h')) := by
  refine Eq.trans (qlim_n (n := 2) (c' := (6, [some (qA g), some (qI s0), none, none], [qI s0], qH0 M)) rfl) ?_
  exact (qlim_calls (n := 1) rfl rfl rfl (Nat.le_of_ble_eq_true rfl) (Nat.le_of_ble_eq_true rfl))
set_option maxRecDepth 20000 in
theorem B_X3_takesTest_9 {M : qMem} {g x1 s0 : Int} (h_g : qHl g) : qlim C_X3_takesTest (9, [some (qA g), some (qI x1), none, none], [qI s0], qH0 M) = qlim C_X3_takesTest ((if ¬ s0 = 0 then 14 else 12), [some (qA g), some (qI x1), none, none], [], qH0 M) := (qlim_n (n := 1) (c' := ((if ¬ s0 = 0 then 14 else 12), [some (qA g), some (qI x1), none, none], [], qH0 M)) rfl)
set_option maxRecDepth 20000 in
theorem B_X3_takesTest_12 {M : qMem} {g x1 : Int} (h_g : qHl g) : qlim C_X3_takesTest (12, [some (qA g), some (qI x1), none, none], [], qH0 M) = some (some (qI 0), qH0 M) := by
  refine Eq.trans (qlim_n (n := 1) (c' := (13, [some (qA g), some (qI x1), none, none], [qI 0], qH0 M)) rfl) ?_
  exact (qlim_ret rfl)
set_option maxRecDepth 20000 in
theorem B_X3_takesTest_14 {M : qMem} {g x1 : Int} (h_g : qHl g) : qlim C_X3_takesTest (14, [some (qA g), some (qI x1), none, none], [], qH0 M) = qbd (S_X3_next [qA g] (qH0 (qup M g 6 (kadd (M g 6) 1)))) (fun r h' => qlim C_X3_takesTest (28, [some (qA g), some (qI x1), none, none], r.toList ++ [], h')) := by
  refine Eq.trans (qlim_n (n := 2) (c' := (16, [some (qA g), some (qI x1), none, none], [qA g, qA g], qH0 M)) rfl) ?_
  refine Eq.trans (qs_getI rfl (qHl_ty h_g) (by decide)) ?_
  refine Eq.trans (qlim_n (n := 2) (c' := (21, [some (qA g), some (qI x1), none, none], [qI (kadd (M g 6) 1), qA g], qH0 M)) rfl) ?_
  refine Eq.trans (qs_putI rfl (qHl_ty h_g) (by decide)) ?_
  refine Eq.trans (qlim_n (n := 1) (c' := (25, [some (qA g), some (qI x1), none, none], [qA g], qH0 (qup M g 6 (kadd (M g 6) 1)))) rfl) ?_
  exact (qlim_callv (n := 0) rfl rfl rfl (Nat.le_of_ble_eq_true rfl) (Nat.le_of_ble_eq_true rfl) (by rw [(qHl_ty h_g)]; rfl))
set_option maxRecDepth 20000 in
theorem B_X3_takesTest_28 {M : qMem} {g x1 s0 : Int} (h_g : qHl g) : qlim C_X3_takesTest (28, [some (qA g), some (qI x1), none, none], [qI s0], qH0 M) = qlim C_X3_takesTest ((if s0 = 60 then 49 else 35), [some (qA g), some (qI x1), some (qI s0), none], [], qH0 M) := (qlim_n (n := 4) (c' := ((if s0 = 60 then 49 else 35), [some (qA g), some (qI x1), some (qI s0), none], [], qH0 M)) rfl)
set_option maxRecDepth 20000 in
theorem B_X3_takesTest_35 {M : qMem} {g x1 x2 : Int} (h_g : qHl g) : qlim C_X3_takesTest (35, [some (qA g), some (qI x1), some (qI x2), none], [], qH0 M) = qlim C_X3_takesTest ((if x2 = 61 then 49 else 41), [some (qA g), some (qI x1), some (qI x2), none], [], qH0 M) := (qlim_n (n := 3) (c' := ((if x2 = 61 then 49 else 41), [some (qA g), some (qI x1), some (qI x2), none], [], qH0 M)) rfl)
set_option maxRecDepth 20000 in
theorem B_X3_takesTest_41 {M : qMem} {g x1 x2 : Int} (h_g : qHl g) : qlim C_X3_takesTest (41, [some (qA g), some (qI x1), some (qI x2), none], [], qH0 M) = qlim C_X3_takesTest ((if x2 = 62 then 49 else 47), [some (qA g), some (qI x1), some (qI x2), none], [], qH0 M) := (qlim_n (n := 3) (c' := ((if x2 = 62 then 49 else 47), [some (qA g), some (qI x1), some (qI x2), none], [], qH0 M)) rfl)
set_option maxRecDepth 20000 in
theorem B_X3_takesTest_47 {M : qMem} {g x1 x2 : Int} (h_g : qHl g) : qlim C_X3_takesTest (47, [some (qA g), some (qI x1), some (qI x2), none], [], qH0 M) = some (some (qI 0), qH0 M) := by
  refine Eq.trans (qlim_n (n := 1) (c' := (48, [some (qA g), some (qI x1), some (qI x2), none], [qI 0], qH0 M)) rfl) ?_
  exact (qlim_ret rfl)
set_option maxRecDepth 20000 in
theorem B_X3_takesTest_49 {M : qMem} {g x1 x2 : Int} (h_g : qHl g) : qlim C_X3_takesTest (49, [some (qA g), some (qI x1), some (qI x2), none], [], qH0 M) = qbd (S_X3_takesNumber [qA g] (qH0 (qup M g 6 (kadd (M g 6) 1)))) (fun r h' => qlim C_X3_takesTest (63, [some (qA g), some (qI x1), some (qI x2), none], r.toList ++ [], h')) := by
  refine Eq.trans (qlim_n (n := 2) (c' := (51, [some (qA g), some (qI x1), some (qI x2), none], [qA g, qA g], qH0 M)) rfl) ?_
  refine Eq.trans (qs_getI rfl (qHl_ty h_g) (by decide)) ?_
  refine Eq.trans (qlim_n (n := 2) (c' := (56, [some (qA g), some (qI x1), some (qI x2), none], [qI (kadd (M g 6) 1), qA g], qH0 M)) rfl) ?_
  refine Eq.trans (qs_putI rfl (qHl_ty h_g) (by decide)) ?_
  refine Eq.trans (qlim_n (n := 1) (c' := (60, [some (qA g), some (qI x1), some (qI x2), none], [qA g], qH0 (qup M g 6 (kadd (M g 6) 1)))) rfl) ?_
  exact (qlim_callv (n := 0) rfl rfl rfl (Nat.le_of_ble_eq_true rfl) (Nat.le_of_ble_eq_true rfl) (by rw [(qHl_ty h_g)]; rfl))
set_option maxRecDepth 20000 in
theorem B_X3_takesTest_63 {M : qMem} {g x1 x2 s0 : Int} (h_g : qHl g) : qlim C_X3_takesTest (63, [some (qA g), some (qI x1), some (qI x2), none], [qI s0], qH0 M) = qlim C_X3_takesTest ((if 0 ≤ s0 then 70 else 68), [some (qA g), some (qI x1), some (qI x2), some (qI s0)], [], qH0 M) := (qlim_n (n := 3) (c' := ((if 0 ≤ s0 then 70 else 68), [some (qA g), some (qI x1), some (qI x2), some (qI s0)], [], qH0 M)) rfl)
set_option maxRecDepth 20000 in
theorem B_X3_takesTest_68 {M : qMem} {g x1 x2 x3 : Int} (h_g : qHl g) : qlim C_X3_takesTest (68, [some (qA g), some (qI x1), some (qI x2), some (qI x3)], [], qH0 M) = some (some (qI 0), qH0 M) := by
  refine Eq.trans (qlim_n (n := 1) (c' := (69, [some (qA g), some (qI x1), some (qI x2), some (qI x3)], [qI 0], qH0 M)) rfl) ?_
  exact (qlim_ret rfl)
set_option maxRecDepth 20000 in
theorem B_X3_takesTest_70 {M : qMem} {g x1 x2 x3 : Int} (h_g : qHl g) : qlim C_X3_takesTest (70, [some (qA g), some (qI x1), some (qI x2), some (qI x3)], [], qH0 M) = qbd (S_X3_adds [qA g, qI (kor (kor x1 (kshl x2 8)) (kshl x3 16))] (qH0 M)) (fun r h' => qlim C_X3_takesTest (85, [some (qA g), some (qI x1), some (qI x2), some (qI x3)], r.toList ++ [], h')) := by
  refine Eq.trans (qlim_n (n := 10) (c' := (82, [some (qA g), some (qI x1), some (qI x2), some (qI x3)], [qI (kor (kor x1 (kshl x2 8)) (kshl x3 16)), qA g], qH0 M)) rfl) ?_
  exact (qlim_callv (n := 1) rfl rfl rfl (Nat.le_of_ble_eq_true rfl) (Nat.le_of_ble_eq_true rfl) (by rw [(qHl_ty h_g)]; rfl))
set_option maxRecDepth 20000 in
theorem B_X3_takesTest_85 {M : qMem} {g x1 x2 x3 : Int} (h_g : qHl g) : qlim C_X3_takesTest (85, [some (qA g), some (qI x1), some (qI x2), some (qI x3)], [], qH0 M) = some (some (qI 1), qH0 M) := by
  refine Eq.trans (qlim_n (n := 1) (c' := (86, [some (qA g), some (qI x1), some (qI x2), some (qI x3)], [qI 1], qH0 M)) rfl) ?_
  exact (qlim_ret rfl)
theorem E_X3_takesTest {h : qH} {g : Int} : S_X3_takesTest [qA g] h = qlim C_X3_takesTest (0, [some (qA g), none, none, none], [], h) := qM_at (Nat.le_of_ble_eq_true rfl) rfl
set_option maxRecDepth 20000 in
theorem B_X3_isAskedFor_0 {M : qMem} {x0 : Int} : qlim C_X3_isAskedFor (0, [some (qI x0)], [], qH0 M) = qlim C_X3_isAskedFor ((if x0 = 112 then 36 else 6), [some (qI x0)], [], qH0 M) := (qlim_n (n := 3) (c' := ((if x0 = 112 then 36 else 6), [some (qI x0)], [], qH0 M)) rfl)
set_option maxRecDepth 20000 in
theorem B_X3_isAskedFor_6 {M : qMem} {x0 : Int} : qlim C_X3_isAskedFor (6, [some (qI x0)], [], qH0 M) = qlim C_X3_isAskedFor ((if x0 = 107 then 36 else 12), [some (qI x0)], [], qH0 M) := (qlim_n (n := 3) (c' := ((if x0 = 107 then 36 else 12), [some (qI x0)], [], qH0 M)) rfl)
set_option maxRecDepth 20000 in
theorem B_X3_isAskedFor_12 {M : qMem} {x0 : Int} : qlim C_X3_isAskedFor (12, [some (qI x0)], [], qH0 M) = qlim C_X3_isAskedFor ((if x0 = 118 then 36 else 18), [some (qI x0)], [], qH0 M) := (qlim_n (n := 3) (c' := ((if x0 = 118 then 36 else 18), [some (qI x0)], [], qH0 M)) rfl)
set_option maxRecDepth 20000 in
theorem B_X3_isAskedFor_18 {M : qMem} {x0 : Int} : qlim C_X3_isAskedFor (18, [some (qI x0)], [], qH0 M) = qlim C_X3_isAskedFor ((if x0 = 119 then 36 else 24), [some (qI x0)], [], qH0 M) := (qlim_n (n := 3) (c' := ((if x0 = 119 then 36 else 24), [some (qI x0)], [], qH0 M)) rfl)
set_option maxRecDepth 20000 in
theorem B_X3_isAskedFor_24 {M : qMem} {x0 : Int} : qlim C_X3_isAskedFor (24, [some (qI x0)], [], qH0 M) = qlim C_X3_isAskedFor ((if x0 = 100 then 36 else 30), [some (qI x0)], [], qH0 M) := (qlim_n (n := 3) (c' := ((if x0 = 100 then 36 else 30), [some (qI x0)], [], qH0 M)) rfl)
set_option maxRecDepth 20000 in
theorem B_X3_isAskedFor_30 {M : qMem} {x0 : Int} : qlim C_X3_isAskedFor (30, [some (qI x0)], [], qH0 M) = qlim C_X3_isAskedFor ((if ¬ x0 = 109 then 40 else 36), [some (qI x0)], [], qH0 M) := (qlim_n (n := 3) (c' := ((if ¬ x0 = 109 then 40 else 36), [some (qI x0)], [], qH0 M)) rfl)
set_option maxRecDepth 20000 in
theorem B_X3_isAskedFor_36 {M : qMem} {x0 : Int} : qlim C_X3_isAskedFor (36, [some (qI x0)], [], qH0 M) = qlim C_X3_isAskedFor (41, [some (qI x0)], [qI 1], qH0 M) := (qlim_n (n := 2) (c' := (41, [some (qI x0)], [qI 1], qH0 M)) rfl)
set_option maxRecDepth 20000 in
theorem B_X3_isAskedFor_40 {M : qMem} {x0 : Int} : qlim C_X3_isAskedFor (40, [some (qI x0)], [], qH0 M) = qlim C_X3_isAskedFor (41, [some (qI x0)], [qI 0], qH0 M) := (qlim_n (n := 1) (c' := (41, [some (qI x0)], [qI 0], qH0 M)) rfl)
set_option maxRecDepth 20000 in
theorem B_X3_isAskedFor_41 {M : qMem} {x0 s0 : Int} (h1 : s0 = 0 ∨ s0 = 1) : qlim C_X3_isAskedFor (41, [some (qI x0)], [qI s0], qH0 M) = some (some (qI s0), qH0 M) := (qs_retZ rfl h1)
theorem E_X3_isAskedFor {h : qH} {x0 : Int} : S_X3_isAskedFor [qI x0] h = qlim C_X3_isAskedFor (0, [some (qI x0)], [], h) := qM_at (Nat.le_of_ble_eq_true rfl) rfl
set_option maxRecDepth 20000 in
theorem B_X3_takesNumber_0 {M : qMem} {g : Int} (h_g : qHl g) : qlim C_X3_takesNumber (0, [some (qA g), none, none, none], [], qH0 M) = qlim C_X3_takesNumber (4, [some (qA g), some (qI (-1)), some (qI 0), none], [], qH0 M) := (qlim_n (n := 4) (c' := (4, [some (qA g), some (qI (-1)), some (qI 0), none], [], qH0 M)) rfl)
set_option maxRecDepth 20000 in
theorem B_X3_takesNumber_4 {M : qMem} {g x1 x2 : Int} {x3 : Option qV} (h_g : qHl g) : qlim C_X3_takesNumber (4, [some (qA g), some (qI x1), some (qI x2), x3], [], qH0 M) = qlim C_X3_takesNumber ((if 2 ≤ x2 then 62 else 9), [some (qA g), some (qI x1), some (qI x2), x3], [], qH0 M) := (qlim_n (n := 3) (c' := ((if 2 ≤ x2 then 62 else 9), [some (qA g), some (qI x1), some (qI x2), x3], [], qH0 M)) rfl)
set_option maxRecDepth 20000 in
theorem B_X3_takesNumber_9 {M : qMem} {g x1 x2 : Int} {x3 : Option qV} (h_g : qHl g) : qlim C_X3_takesNumber (9, [some (qA g), some (qI x1), some (qI x2), x3], [], qH0 M) = qbd (S_X3_next [qA g] (qH0 M)) (fun r h' => qlim C_X3_takesNumber (13, [some (qA g), some (qI x1), some (qI x2), x3], r.toList ++ [], h')) := by
  refine Eq.trans (qlim_n (n := 1) (c' := (10, [some (qA g), some (qI x1), some (qI x2), x3], [qA g], qH0 M)) rfl) ?_
  exact (qlim_callv (n := 0) rfl rfl rfl (Nat.le_of_ble_eq_true rfl) (Nat.le_of_ble_eq_true rfl) (by rw [(qHl_ty h_g)]; rfl))
set_option maxRecDepth 20000 in
theorem B_X3_takesNumber_13 {M : qMem} {g x1 x2 s0 : Int} {x3 : Option qV} (h_g : qHl g) : qlim C_X3_takesNumber (13, [some (qA g), some (qI x1), some (qI x2), x3], [qI s0], qH0 M) = qlim C_X3_takesNumber ((if s0 < 48 then 26 else 20), [some (qA g), some (qI x1), some (qI x2), some (qI s0)], [], qH0 M) := (qlim_n (n := 4) (c' := ((if s0 < 48 then 26 else 20), [some (qA g), some (qI x1), some (qI x2), some (qI s0)], [], qH0 M)) rfl)
set_option maxRecDepth 20000 in
theorem B_X3_takesNumber_20 {M : qMem} {g x1 x2 x3 : Int} (h_g : qHl g) : qlim C_X3_takesNumber (20, [some (qA g), some (qI x1), some (qI x2), some (qI x3)], [], qH0 M) = qlim C_X3_takesNumber ((if x3 ≤ 57 then 28 else 26), [some (qA g), some (qI x1), some (qI x2), some (qI x3)], [], qH0 M) := (qlim_n (n := 3) (c' := ((if x3 ≤ 57 then 28 else 26), [some (qA g), some (qI x1), some (qI x2), some (qI x3)], [], qH0 M)) rfl)
set_option maxRecDepth 20000 in
theorem B_X3_takesNumber_26 {M : qMem} {g x1 x2 x3 : Int} (h_g : qHl g) : qlim C_X3_takesNumber (26, [some (qA g), some (qI x1), some (qI x2), some (qI x3)], [], qH0 M) = some (some (qI x1), qH0 M) := by
  refine Eq.trans (qlim_n (n := 1) (c' := (27, [some (qA g), some (qI x1), some (qI x2), some (qI x3)], [qI x1], qH0 M)) rfl) ?_
  exact (qlim_ret rfl)
set_option maxRecDepth 20000 in
theorem B_X3_takesNumber_28 {M : qMem} {g x1 x2 x3 : Int} (h_g : qHl g) : qlim C_X3_takesNumber (28, [some (qA g), some (qI x1), some (qI x2), some (qI x3)], [], qH0 M) = qlim C_X3_takesNumber ((if ¬ x2 = 0 then 36 else 32), [some (qA g), some (qI x1), some (qI x2), some (qI x3)], [], qH0 M) := (qlim_n (n := 2) (c' := ((if ¬ x2 = 0 then 36 else 32), [some (qA g), some (qI x1), some (qI x2), some (qI x3)], [], qH0 M)) rfl)
set_option maxRecDepth 20000 in
theorem B_X3_takesNumber_32 {M : qMem} {g x1 x2 x3 : Int} (h_g : qHl g) : qlim C_X3_takesNumber (32, [some (qA g), some (qI x1), some (qI x2), some (qI x3)], [], qH0 M) = qlim C_X3_takesNumber (40, [some (qA g), some (qI x1), some (qI x2), some (qI x3)], [qI 0], qH0 M) := (qlim_n (n := 2) (c' := (40, [some (qA g), some (qI x1), some (qI x2), some (qI x3)], [qI 0], qH0 M)) rfl)
set_option maxRecDepth 20000 in
theorem B_X3_takesNumber_36 {M : qMem} {g x1 x2 x3 : Int} (h_g : qHl g) : qlim C_X3_takesNumber (36, [some (qA g), some (qI x1), some (qI x2), some (qI x3)], [], qH0 M) = qlim C_X3_takesNumber (40, [some (qA g), some (qI x1), some (qI x2), some (qI x3)], [qI (kmul 10 x1)], qH0 M) := (qlim_n (n := 3) (c' := (40, [some (qA g), some (qI x1), some (qI x2), some (qI x3)], [qI (kmul 10 x1)], qH0 M)) rfl)
set_option maxRecDepth 20000 in
theorem B_X3_takesNumber_40 {M : qMem} {g x1 x2 x3 s0 : Int} (h_g : qHl g) : qlim C_X3_takesNumber (40, [some (qA g), some (qI x1), some (qI x2), some (qI x3)], [qI s0], qH0 M) = qlim C_X3_takesNumber (4, [some (qA g), some (qI (ksub (kadd s0 x3) 48)), some (qI (kadd x2 1)), some (qI x3)], [], qH0 (qup M g 6 (kadd (M g 6) 1))) := by
  refine Eq.trans (qlim_n (n := 7) (c' := (48, [some (qA g), some (qI (ksub (kadd s0 x3) 48)), some (qI x2), some (qI x3)], [qA g, qA g], qH0 M)) rfl) ?_
  refine Eq.trans (qs_getI rfl (qHl_ty h_g) (by decide)) ?_
  refine Eq.trans (qlim_n (n := 2) (c' := (53, [some (qA g), some (qI (ksub (kadd s0 x3) 48)), some (qI x2), some (qI x3)], [qI (kadd (M g 6) 1), qA g], qH0 M)) rfl) ?_
  refine Eq.trans (qs_putI rfl (qHl_ty h_g) (by decide)) ?_
  exact (qlim_n (n := 2) (c' := (4, [some (qA g), some (qI (ksub (kadd s0 x3) 48)), some (qI (kadd x2 1)), some (qI x3)], [], qH0 (qup M g 6 (kadd (M g 6) 1)))) rfl)
set_option maxRecDepth 20000 in
theorem B_X3_takesNumber_62 {M : qMem} {g x1 x2 : Int} {x3 : Option qV} (h_g : qHl g) : qlim C_X3_takesNumber (62, [some (qA g), some (qI x1), some (qI x2), x3], [], qH0 M) = some (some (qI x1), qH0 M) := by
  refine Eq.trans (qlim_n (n := 1) (c' := (63, [some (qA g), some (qI x1), some (qI x2), x3], [qI x1], qH0 M)) rfl) ?_
  exact (qlim_ret rfl)
theorem E_X3_takesNumber {h : qH} {g : Int} : S_X3_takesNumber [qA g] h = qlim C_X3_takesNumber (0, [some (qA g), none, none, none], [], h) := qM_at (Nat.le_of_ble_eq_true rfl) rfl
set_option maxRecDepth 20000 in
theorem B_X3_takesSign_0 {M : qMem} {g x1 : Int} (h_g : qHl g) : qlim C_X3_takesSign (0, [some (qA g), some (qI x1)], [], qH0 M) = qbd (S_X3_next [qA g] (qH0 M)) (fun r h' => qlim C_X3_takesSign (4, [some (qA g), some (qI x1)], r.toList ++ [], h')) := by
  refine Eq.trans (qlim_n (n := 1) (c' := (1, [some (qA g), some (qI x1)], [qA g], qH0 M)) rfl) ?_
  exact (qlim_callv (n := 0) rfl rfl rfl (Nat.le_of_ble_eq_true rfl) (Nat.le_of_ble_eq_true rfl) (by rw [(qHl_ty h_g)]; rfl))
set_option maxRecDepth 20000 in
theorem B_X3_takesSign_4 {M : qMem} {g x1 s0 : Int} (h_g : qHl g) : qlim C_X3_takesSign (4, [some (qA g), some (qI x1)], [qI s0], qH0 M) = qlim C_X3_takesSign ((if s0 = x1 then 10 else 8), [some (qA g), some (qI x1)], [], qH0 M) := (qlim_n (n := 2) (c' := ((if s0 = x1 then 10 else 8), [some (qA g), some (qI x1)], [], qH0 M)) rfl)
set_option maxRecDepth 20000 in
theorem B_X3_takesSign_8 {M : qMem} {g x1 : Int} (h_g : qHl g) : qlim C_X3_takesSign (8, [some (qA g), some (qI x1)], [], qH0 M) = some (some (qI 0), qH0 M) := by
  refine Eq.trans (qlim_n (n := 1) (c' := (9, [some (qA g), some (qI x1)], [qI 0], qH0 M)) rfl) ?_
  exact (qlim_ret rfl)
set_option maxRecDepth 20000 in
theorem B_X3_takesSign_10 {M : qMem} {g x1 : Int} (h_g : qHl g) : qlim C_X3_takesSign (10, [some (qA g), some (qI x1)], [], qH0 M) = some (some (qI 1), qH0 (qup M g 6 (kadd (M g 6) 1))) := by
  refine Eq.trans (qlim_n (n := 2) (c' := (12, [some (qA g), some (qI x1)], [qA g, qA g], qH0 M)) rfl) ?_
  refine Eq.trans (qs_getI rfl (qHl_ty h_g) (by decide)) ?_
  refine Eq.trans (qlim_n (n := 2) (c' := (17, [some (qA g), some (qI x1)], [qI (kadd (M g 6) 1), qA g], qH0 M)) rfl) ?_
  refine Eq.trans (qs_putI rfl (qHl_ty h_g) (by decide)) ?_
  refine Eq.trans (qlim_n (n := 1) (c' := (21, [some (qA g), some (qI x1)], [qI 1], qH0 (qup M g 6 (kadd (M g 6) 1)))) rfl) ?_
  exact (qlim_ret rfl)
theorem E_X3_takesSign {h : qH} {g x1 : Int} : S_X3_takesSign [qA g, qI x1] h = qlim C_X3_takesSign (0, [some (qA g), some (qI x1)], [], h) := qM_at (Nat.le_of_ble_eq_true rfl) rfl
set_option maxRecDepth 20000 in
theorem B_X3_next_0 {M : qMem} {g : Int} (h_g : qHl g) : qlim C_X3_next (0, [some (qA g)], [], qH0 M) = qlim C_X3_next ((if M g 2 ≤ M g 6 then 23 else 11), [some (qA g)], [], qH0 M) := by
  refine Eq.trans (qlim_n (n := 1) (c' := (1, [some (qA g)], [qA g], qH0 M)) rfl) ?_
  refine Eq.trans (qs_getI rfl (qHl_ty h_g) (by decide)) ?_
  refine Eq.trans (qlim_n (n := 1) (c' := (5, [some (qA g)], [qA g, qI (M g 6)], qH0 M)) rfl) ?_
  refine Eq.trans (qs_getI rfl (qHl_ty h_g) (by decide)) ?_
  exact (qlim_n (n := 1) (c' := ((if M g 2 ≤ M g 6 then 23 else 11), [some (qA g)], [], qH0 M)) rfl)
set_option maxRecDepth 20000 in
theorem B_X3_next_11 {M : qMem} {g : Int} (h_g : qHl g) (h1 : 0 ≤ M g 6) (h2 : M g 6 < 100) : qlim C_X3_next (11, [some (qA g)], [], qH0 M) = qlim C_X3_next (24, [some (qA g)], [qI (M (g + 1) (M g 6))], qH0 M) := by
  refine Eq.trans (qlim_n (n := 1) (c' := (12, [some (qA g)], [qA g], qH0 M)) rfl) ?_
  refine Eq.trans (qs_getR (z := g + 1) rfl (qHl_ty h_g) (by decide) (qHl_g0 h_g)) ?_
  refine Eq.trans (qlim_n (n := 1) (c' := (16, [some (qA g)], [qA g, qA (g + 1)], qH0 M)) rfl) ?_
  refine Eq.trans (qs_getI rfl (qHl_ty h_g) (by decide)) ?_
  refine Eq.trans (qs_baload rfl (qHl_t1 h_g) h1 h2) ?_
  exact (qlim_n (n := 1) (c' := (24, [some (qA g)], [qI (M (g + 1) (M g 6))], qH0 M)) rfl)
set_option maxRecDepth 20000 in
theorem B_X3_next_23 {M : qMem} {g : Int} (h_g : qHl g) : qlim C_X3_next (23, [some (qA g)], [], qH0 M) = qlim C_X3_next (24, [some (qA g)], [qI (-1)], qH0 M) := (qlim_n (n := 1) (c' := (24, [some (qA g)], [qI (-1)], qH0 M)) rfl)
set_option maxRecDepth 20000 in
theorem B_X3_next_24 {M : qMem} {g s0 : Int} (h_g : qHl g) : qlim C_X3_next (24, [some (qA g)], [qI s0], qH0 M) = some (some (qI s0), qH0 M) := (qlim_ret rfl)
theorem E_X3_next {h : qH} {g : Int} : S_X3_next [qA g] h = qlim C_X3_next (0, [some (qA g)], [], h) := qM_at (Nat.le_of_ble_eq_true rfl) rfl
set_option maxRecDepth 20000 in
theorem B_X3_adds_0 {M : qMem} {g x1 : Int} (h_g : qHl g) : qlim C_X3_adds (0, [some (qA g), some (qI x1)], [], qH0 M) = qlim C_X3_adds ((if 100 ≤ M g 3 then 32 else 12), [some (qA g), some (qI x1)], [], qH0 M) := by
  refine Eq.trans (qlim_n (n := 1) (c' := (1, [some (qA g), some (qI x1)], [qA g], qH0 M)) rfl) ?_
  refine Eq.trans (qs_getI rfl (qHl_ty h_g) (by decide)) ?_
  refine Eq.trans (qlim_n (n := 1) (c' := (5, [some (qA g), some (qI x1)], [qA g, qI (M g 3)], qH0 M)) rfl) ?_
  refine Eq.trans (qs_getR (z := g + 2) rfl (qHl_ty h_g) (by decide) (qHl_g1 h_g)) ?_
  refine Eq.trans (qs_alen rfl (qHl_t2 h_g) (by decide) (by decide)) ?_
  exact (qlim_n (n := 1) (c' := ((if 100 ≤ M g 3 then 32 else 12), [some (qA g), some (qI x1)], [], qH0 M)) rfl)
set_option maxRecDepth 20000 in
theorem B_X3_adds_12 {M : qMem} {g x1 : Int} (h_g : qHl g) (h1 : 0 ≤ M g 3) (h2 : M g 3 < 100) : qlim C_X3_adds (12, [some (qA g), some (qI x1)], [], qH0 M) = qlim C_X3_adds (32, [some (qA g), some (qI x1)], [], qH0 (qup (qup M (g + 2) (M g 3) x1) g 3 (kadd ((qup M (g + 2) (M g 3) x1) g 3) 1))) := by
  refine Eq.trans (qlim_n (n := 1) (c' := (13, [some (qA g), some (qI x1)], [qA g], qH0 M)) rfl) ?_
  refine Eq.trans (qs_getR (z := g + 2) rfl (qHl_ty h_g) (by decide) (qHl_g1 h_g)) ?_
  refine Eq.trans (qlim_n (n := 1) (c' := (17, [some (qA g), some (qI x1)], [qA g, qA (g + 2)], qH0 M)) rfl) ?_
  refine Eq.trans (qs_getI rfl (qHl_ty h_g) (by decide)) ?_
  refine Eq.trans (qlim_n (n := 1) (c' := (21, [some (qA g), some (qI x1)], [qI x1, qI (M g 3), qA (g + 2)], qH0 M)) rfl) ?_
  refine Eq.trans (qs_iastore rfl (qHl_t2 h_g) h1 h2) ?_
  refine Eq.trans (qlim_n (n := 2) (c' := (24, [some (qA g), some (qI x1)], [qA g, qA g], qH0 (qup M (g + 2) (M g 3) x1))) rfl) ?_
  refine Eq.trans (qs_getI rfl (qHl_ty h_g) (by decide)) ?_
  refine Eq.trans (qlim_n (n := 2) (c' := (29, [some (qA g), some (qI x1)], [qI (kadd ((qup M (g + 2) (M g 3) x1) g 3) 1), qA g], qH0 (qup M (g + 2) (M g 3) x1))) rfl) ?_
  exact (qs_putI rfl (qHl_ty h_g) (by decide))
set_option maxRecDepth 20000 in
theorem B_X3_adds_32 {M : qMem} {g x1 : Int} (h_g : qHl g) : qlim C_X3_adds (32, [some (qA g), some (qI x1)], [], qH0 M) = some (none, qH0 M) := (qlim_ret rfl)
theorem E_X3_adds {h : qH} {g x1 : Int} : S_X3_adds [qA g, qI x1] h = qlim C_X3_adds (0, [some (qA g), some (qI x1)], [], h) := qM_at (Nat.le_of_ble_eq_true rfl) rfl
