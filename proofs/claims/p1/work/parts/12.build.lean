def ev_Rb : Option dp_R := tb_cf 6 25 [.ref 0] ev_s2 ev_P2
theorem ev_Rb_ok : ev_okS ev_Rb (some (.int 0)) ev_s2 = true := by decide +kernel
