set_option maxRecDepth 20000 in
theorem tst1 {M : qMem} {a b : Int} : qlim C_X12_least (0, [some (qA 82), some (qI a), some (qI b)], [], qH0 M) = qlim C_X12_least ((if b ≤ a then 9 else 5), [some (qA 82), some (qI a), some (qI b)], [], qH0 M) := qlim_n (n := 3) rfl
set_option maxRecDepth 20000 in
theorem tst2 {M : qMem} {p w : Int} (h1 : 0 ≤ p) (h2 : p < 6) : qlim C_X12_work (18, [some (qA 82), some (qI p), some (qI w), none], [], qH0 M) = qlim C_X12_work (23, [some (qA 82), some (qI p), some (qI w), none], [qI p, qA 86], qH0 M) := qlim_n (n := 3) rfl
