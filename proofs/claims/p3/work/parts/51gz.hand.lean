theorem uX12_chained_c0v1 : as_Sum sh1r ([.inr (some 56), .inl (0, 255, 1, 0, [])], [], (some (.inl ((-2147483648), 2147483647, 1, 0, [])))) sX12_chained := sorry
