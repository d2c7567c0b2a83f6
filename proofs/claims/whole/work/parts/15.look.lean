theorem lk_0 : fe cd_L_law 0 = some (.new 7, 3, 8, 0, 0, 0, 107, 108, 90) := fa_L_law.1
