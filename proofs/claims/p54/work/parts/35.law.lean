-- ===== L_law =====
def f_L_law_b874 (D : Int32 → Int32) (self138 : gM → Int32 → Int32 → Int32 → gR) (M : gM) (a3 : Int32) (a5 : Int32) (t0 : Int32) : gR := (gNz 15 (if (a5 - a5 / 15 * 15) = 14 then (if t0 = 0 then (bV (a5 + 1) (fun x1 => (self138 M a3 0 x1))) else (rbN (f_L_refuses M a3) (fun x3 M2 => (if x3 = 0 then (bV (a5 + 1) (fun x4 => (self138 M2 a3 0 x4))) else (bV (a5 + 1) (fun x5 => (self138 M2 a3 1 x5))))))) else (bV (a5 + 1) (fun x6 => (self138 M a3 t0 x6)))))
def f_L_law_b869 (D : Int32 → Int32) (self138 : gM → Int32 → Int32 → Int32 → gR) (M : gM) (a3 : Int32) (a5 : Int32) : gR := (f_L_law_b874 D self138 M a3 a5 1)
def f_L_law_b873 (D : Int32 → Int32) (self138 : gM → Int32 → Int32 → Int32 → gR) (M : gM) (a3 : Int32) (a5 : Int32) : gR := (f_L_law_b874 D self138 M a3 a5 0)
def f_L_law_b837 (D : Int32 → Int32) (self138 : gM → Int32 → Int32 → Int32 → gR) (M : gM) (a3 : Int32) (a4 : Int32) (a5 : Int32) (a6 : Int32) (a7 : Int32) : gR := (if a4 = 0 then (f_L_law_b873 D self138 M a3 a5) else (rbN (f_L_agrees M a3 a7) (fun x2 M1 => (if x2 = 0 then (f_L_law_b873 D self138 M1 a3 a5) else (gNz 5 (if 0 < (a5 - a5 / 5 * 5) then (f_L_law_b869 D self138 M1 a3 a5) else (rbN (f_L_entries M1 a6) (fun x4 M3 => (if x4 = 0 then (f_L_law_b873 D self138 M3 a3 a5) else (f_L_law_b869 D self138 M3 a3 a5))))))))))
def f_L_law_b389 (D : Int32 → Int32) (self138 : gM → Int32 → Int32 → Int32 → gR) (M : gM) (a4 : Int32) (a5 : Int32) (a6 : Int32) (a7 : Int32) (t0 : Int32) (t1 : Int32) : gR := (bV (t0 + t1) (fun x1 => (f_L_law_b837 D self138 M x1 a4 a5 a6 a7)))
def f_L_law_b373 (D : Int32 → Int32) (self138 : gM → Int32 → Int32 → Int32 → gR) (M : gM) (a3 : Int32) (a5 : Int32) (a6 : Int32) (a7 : Int32) (a11 : Int64) (t0 : Int32) : gR := (if a11 = a3.toInt64 then (f_L_law_b389 D self138 M t0 a5 a6 a7 a3 1) else (f_L_law_b389 D self138 M t0 a5 a6 a7 a3 0))
def f_L_law_b368 (D : Int32 → Int32) (self138 : gM → Int32 → Int32 → Int32 → gR) (M : gM) (a3 : Int32) (a5 : Int32) (a6 : Int32) (a7 : Int32) (a11 : Int64) : gR := (f_L_law_b373 D self138 M a3 a5 a6 a7 a11 1)
def f_L_law_b372 (D : Int32 → Int32) (self138 : gM → Int32 → Int32 → Int32 → gR) (M : gM) (a3 : Int32) (a5 : Int32) (a6 : Int32) (a7 : Int32) (a11 : Int64) : gR := (f_L_law_b373 D self138 M a3 a5 a6 a7 a11 0)
def f_L_law_b336 (D : Int32 → Int32) (self138 : gM → Int32 → Int32 → Int32 → gR) (M : gM) (a3 : Int32) (a5 : Int32) (a6 : Int32) (a7 : Int32) (a11 : Int64) (t0 : Int64) (t1 : Int64) : gR := (if t0 = t1 then (qb (f_W_due M 0 a3) (fun x2 M1 => (if x2 = (-1) then (f_L_law_b368 D self138 M1 a3 a5 a6 a7 a11) else (qb (f_W_due M1 0 a3) (fun x4 M3 => (rbN (f_X8_today M3 ) (fun x6 M5 => (if x4 ≤ x6.toInt64 then (f_L_law_b372 D self138 M5 a3 a5 a6 a7 a11) else (f_L_law_b368 D self138 M5 a3 a5 a6 a7 a11))))))))) else (f_L_law_b372 D self138 M a3 a5 a6 a7 a11))
def f_L_law_b281 (D : Int32 → Int32) (self138 : gM → Int32 → Int32 → Int32 → gR) (M : gM) (a3 : Int32) (a5 : Int32) (a6 : Int32) (a7 : Int32) (a9 : Int32) (t0 : Int64) : gR := (if t0 = (-9000000000000000003) then (f_L_law_b368 D self138 M a3 a5 a6 a7 t0) else (if t0 = a3.toInt64 then (qb (f_W_stateOf M a3) (fun x2 M1 => (if x2 = 0 then (gNz 3 (qb (f_W_serve M1 a3 (a7 - a7 / 3 * 3)) (fun x4 M3 => (if a9 = 160 then (f_L_law_b336 D self138 M3 a3 a5 a6 a7 t0 x4 (-9000000000000000003)) else (f_L_law_b336 D self138 M3 a3 a5 a6 a7 t0 x4 a9.toInt64))))) else (f_L_law_b372 D self138 M1 a3 a5 a6 a7 t0)))) else (f_L_law_b372 D self138 M a3 a5 a6 a7 t0)))
def f_L_law_b499 (D : Int32 → Int32) (self138 : gM → Int32 → Int32 → Int32 → gR) (M : gM) (a3 : Int32) (a5 : Int32) (a6 : Int32) (a7 : Int32) (t0 : Int32) : gR := (f_L_law_b837 D self138 M a3 t0 a5 a6 a7)
def f_L_law_b494 (D : Int32 → Int32) (self138 : gM → Int32 → Int32 → Int32 → gR) (M : gM) (a3 : Int32) (a5 : Int32) (a6 : Int32) (a7 : Int32) : gR := (f_L_law_b499 D self138 M a3 a5 a6 a7 1)
def f_L_law_b475 (D : Int32 → Int32) (self138 : gM → Int32 → Int32 → Int32 → gR) (M : gM) (a3 : Int32) (a5 : Int32) (a6 : Int32) (a7 : Int32) (t1 : Int32) : gR := (gNz 96 (gNz 5 (gNz 256 (rbN (f_L_about M t1 ((a6 / 96) - (a6 / 96) / 5 * 5) (a7 / 256)) (fun x2 M1 => (if x2 = 0 then (f_L_law_b499 D self138 M1 a3 a5 a6 a7 0) else (f_L_law_b494 D self138 M1 a3 a5 a6 a7)))))))
def f_L_law_b470 (D : Int32 → Int32) (self138 : gM → Int32 → Int32 → Int32 → gR) (M : gM) (a3 : Int32) (a5 : Int32) (a6 : Int32) (a7 : Int32) (a9 : Int32) : gR := (gNz a9 (f_L_law_b475 D self138 M a3 a5 a6 a7 (a7 - a7 / a9 * a9)))
def f_L_law_b589 (D : Int32 → Int32) (self138 : gM → Int32 → Int32 → Int32 → gR) (M : gM) (a3 : Int32) (a5 : Int32) (a6 : Int32) (a7 : Int32) (t0 : Int32) : gR := (f_L_law_b837 D self138 M a3 t0 a5 a6 a7)
def f_L_law_b584 (D : Int32 → Int32) (self138 : gM → Int32 → Int32 → Int32 → gR) (M : gM) (a3 : Int32) (a5 : Int32) (a6 : Int32) (a7 : Int32) : gR := (f_L_law_b589 D self138 M a3 a5 a6 a7 1)
def f_L_law_b588 (D : Int32 → Int32) (self138 : gM → Int32 → Int32 → Int32 → gR) (M : gM) (a3 : Int32) (a5 : Int32) (a6 : Int32) (a7 : Int32) : gR := (f_L_law_b589 D self138 M a3 a5 a6 a7 0)
def f_L_law_b574 (D : Int32 → Int32) (self138 : gM → Int32 → Int32 → Int32 → gR) (M : gM) (a3 : Int32) (a5 : Int32) (a6 : Int32) (a7 : Int32) (t1 : Int32) (t2 : Int32) : gR := (qb (f_W_stay M t1 t2) (fun x2 M1 => (if x2 = (-9000000000000000003) then (f_L_law_b584 D self138 M1 a3 a5 a6 a7) else (f_L_law_b588 D self138 M1 a3 a5 a6 a7))))
def f_L_law_b531 (D : Int32 → Int32) (self138 : gM → Int32 → Int32 → Int32 → gR) (M : gM) (a3 : Int32) (a5 : Int32) (a6 : Int32) (a7 : Int32) (a9 : Int32) (t1 : Int32) (t2 : Int32) : gR := (qb (f_W_stay M t1 t2) (fun x2 M1 => (if x2 = (-9000000000000000003) then (f_L_law_b584 D self138 M1 a3 a5 a6 a7) else (if x2 = a9.toInt64 then (gNz 16 (gNz 2 (gNz 2 (if (a7 - a7 / 2 * 2) = 0 then (f_L_law_b574 D self138 M1 a3 a5 a6 a7 ((a6 / 16) - (a6 / 16) / 2 * 2) 1) else (f_L_law_b574 D self138 M1 a3 a5 a6 a7 ((a6 / 16) - (a6 / 16) / 2 * 2) 0))))) else (f_L_law_b588 D self138 M1 a3 a5 a6 a7)))))
def f_L_law_b757 (D : Int32 → Int32) (self138 : gM → Int32 → Int32 → Int32 → gR) (M : gM) (a3 : Int32) (a5 : Int32) (a6 : Int32) (a7 : Int32) (t0 : Int32) : gR := (f_L_law_b837 D self138 M a3 t0 a5 a6 a7)
def f_L_law_b752 (D : Int32 → Int32) (self138 : gM → Int32 → Int32 → Int32 → gR) (M : gM) (a3 : Int32) (a5 : Int32) (a6 : Int32) (a7 : Int32) : gR := (f_L_law_b757 D self138 M a3 a5 a6 a7 1)
def f_L_law_b756 (D : Int32 → Int32) (self138 : gM → Int32 → Int32 → Int32 → gR) (M : gM) (a3 : Int32) (a5 : Int32) (a6 : Int32) (a7 : Int32) : gR := (f_L_law_b757 D self138 M a3 a5 a6 a7 0)
def f_L_law_b744 (D : Int32 → Int32) (self138 : gM → Int32 → Int32 → Int32 → gR) (M : gM) (a3 : Int32) (a5 : Int32) (a6 : Int32) (a7 : Int32) (t1 : Int32) (t2 : Int32) (t3 : Int32) : gR := (qb (f_W_setRule M t1 t2 t3) (fun x2 M1 => (if x2 < 1 then (f_L_law_b756 D self138 M1 a3 a5 a6 a7) else (f_L_law_b752 D self138 M1 a3 a5 a6 a7))))
def f_L_law_b701 (D : Int32 → Int32) (self138 : gM → Int32 → Int32 → Int32 → gR) (M : gM) (a3 : Int32) (a5 : Int32) (a6 : Int32) (a7 : Int32) : gR := (gNz 1024 (gNz 4 (if 0 < ((a7 / 1024) - (a7 / 1024) / 4 * 4) then (f_L_law_b752 D self138 M a3 a5 a6 a7) else (gNz 4096 (gNz 5 (gNz 32768 (gNz 30 (gNz 2 (if (a7 - a7 / 2 * 2) = 0 then (f_L_law_b744 D self138 M a3 a5 a6 a7 ((a7 / 4096) - (a7 / 4096) / 5 * 5) (1 + ((a7 / 32768) - (a7 / 32768) / 30 * 30)) 1) else (f_L_law_b744 D self138 M a3 a5 a6 a7 ((a7 / 4096) - (a7 / 4096) / 5 * 5) (1 + ((a7 / 32768) - (a7 / 32768) / 30 * 30)) 0))))))))))
def f_L_law_b672 (D : Int32 → Int32) (self138 : gM → Int32 → Int32 → Int32 → gR) (M : gM) (a3 : Int32) (a5 : Int32) (a6 : Int32) (a7 : Int32) (a10 : Int64) (a12 : Int64) (t0 : Int32) (t1 : Int32) : gR := (if t0 = t1 then (if a12 = (-9000000000000000003) then (f_L_law_b701 D self138 M a3 a5 a6 a7) else (if a12 = (-1) then (f_L_law_b701 D self138 M a3 a5 a6 a7) else (if a12 < a10 then (f_L_law_b756 D self138 M a3 a5 a6 a7) else (f_L_law_b701 D self138 M a3 a5 a6 a7)))) else (f_L_law_b756 D self138 M a3 a5 a6 a7))
def f_L_law_b667 (D : Int32 → Int32) (self138 : gM → Int32 → Int32 → Int32 → gR) (M : gM) (a3 : Int32) (a5 : Int32) (a6 : Int32) (a7 : Int32) (a10 : Int64) (a12 : Int64) (t0 : Int32) : gR := (f_L_law_b672 D self138 M a3 a5 a6 a7 a10 a12 t0 1)
def f_L_law_b647 (D : Int32 → Int32) (self138 : gM → Int32 → Int32 → Int32 → gR) (M : gM) (a3 : Int32) (a5 : Int32) (a6 : Int32) (a7 : Int32) (a10 : Int64) (a12 : Int64) (t0 : Int32) : gR := (if a10 = (-1) then (f_L_law_b667 D self138 M a3 a5 a6 a7 a10 a12 t0) else (rbN (f_X8_today M ) (fun x2 M1 => (if x2.toInt64 ≤ a10 then (f_L_law_b672 D self138 M1 a3 a5 a6 a7 a10 a12 t0 0) else (f_L_law_b667 D self138 M1 a3 a5 a6 a7 a10 a12 t0)))))
def f_L_law_b835 (D : Int32 → Int32) (self138 : gM → Int32 → Int32 → Int32 → gR) (M : gM) (a3 : Int32) (a5 : Int32) (a6 : Int32) (a7 : Int32) (t0 : Int32) : gR := (f_L_law_b837 D self138 M a3 t0 a5 a6 a7)
def f_L_law_b830 (D : Int32 → Int32) (self138 : gM → Int32 → Int32 → Int32 → gR) (M : gM) (a3 : Int32) (a5 : Int32) (a6 : Int32) (a7 : Int32) : gR := (f_L_law_b835 D self138 M a3 a5 a6 a7 1)
def f_L_law_b834 (D : Int32 → Int32) (self138 : gM → Int32 → Int32 → Int32 → gR) (M : gM) (a3 : Int32) (a5 : Int32) (a6 : Int32) (a7 : Int32) : gR := (f_L_law_b835 D self138 M a3 a5 a6 a7 0)
def f_L_law_b187 (D : Int32 → Int32) (self138 : gM → Int32 → Int32 → Int32 → gR) (M : gM) (a3 : Int32) (a5 : Int32) (a6 : Int32) (a7 : Int32) (t0 : Int32) : gR := (rbN (f_X8_entries M ) (fun x2 M1 => (if 2 ≤ t0 then (if 9 ≤ t0 then (if 12 ≤ t0 then (if 13 ≤ t0 then (if 14 ≤ t0 then (rbN (f_X8_today M1 ) (fun x4 M3 => (gNz 17 (qb (f_W_pass M3 (1 + (a7 - a7 / 17 * 17))) (fun x6 M5 => (gNz 17 (if x6 = ((x4 + 1) + (a7 - a7 / 17 * 17)).toInt64 then (gNz 17 (gNz 3 (if 0 < ((a7 / 17) - (a7 / 17) / 3 * 3) then (f_L_law_b830 D self138 M5 a3 a5 a6 a7) else (rbN (f_X8_today M5 ) (fun x8 M7 => (gNz 51 (gNz 9 (qb (f_W_holiday M7 ((x8 + 1) + ((a7 / 51) - (a7 / 51) / 9 * 9))) (fun x10 M9 => (if x10 < (-9000000000000000003) then (f_L_law_b834 D self138 M9 a3 a5 a6 a7) else (f_L_law_b830 D self138 M9 a3 a5 a6 a7))))))))))) else (f_L_law_b834 D self138 M5 a3 a5 a6 a7)))))))) else (gNz a3 (qb (f_W_due M1 0 (a7 - a7 / a3 * a3)) (fun x12 M11 => (gNz a3 (gNz 64 (gNz 9 (qb (f_W_extend M11 0 (a7 - a7 / a3 * a3) (1 + ((a7 / 64) - (a7 / 64) / 9 * 9))) (fun x14 M13 => (if x14 = (-9000000000000000003) then (f_L_law_b647 D self138 M13 a3 a5 a6 a7 x12 x14 1) else (f_L_law_b647 D self138 M13 a3 a5 a6 a7 x12 x14 0))))))))))) else (gNz 16 (gNz 2 (gNz 2 (if (a7 - a7 / 2 * 2) = 0 then (f_L_law_b531 D self138 M1 a3 a5 a6 a7 x2 ((a6 / 16) - (a6 / 16) / 2 * 2) 1) else (f_L_law_b531 D self138 M1 a3 a5 a6 a7 x2 ((a6 / 16) - (a6 / 16) / 2 * 2) 0)))))) else (if x2 = 0 then (f_L_law_b494 D self138 M1 a3 a5 a6 a7) else (gNz 16 (gNz 6 (if 4 ≤ ((a6 / 16) - (a6 / 16) / 6 * 6) then (f_L_law_b470 D self138 M1 a3 a5 a6 a7 x2) else (if x2 ≤ 4 then (f_L_law_b470 D self138 M1 a3 a5 a6 a7 x2) else (gNz 4 (f_L_law_b475 D self138 M1 a3 a5 a6 a7 ((x2 - 1) - (a7 - a7 / 4 * 4)))))))))) else (gNz a3 (gNz 16 (gNz 8 (gNz 64 (rbN (f_L_steps M1 (a7 - a7 / a3 * a3) ((a6 / 16) - (a6 / 16) / 8 * 8) (a7 / 64)) (fun x16 M15 => (f_L_law_b837 D self138 M15 a3 x16 a5 a6 a7)))))))) else (gNz 16 (gNz 2 (bV ((a6 / 16) - (a6 / 16) / 2 * 2) (fun x17 => (if x17 = 0 then (gNz 3 (gNz 3 (gNz 3 (gNz 9 (gNz 5000 (qb (f_W_claim M1 0 ((a7 - a7 / 3 * 3) * 2) ((((a7 / 3) - (a7 / 3) / 3 * 3) * 2) + 1) (1 + ((a7 / 9) - (a7 / 9) / 5000 * 5000))) (fun x19 M18 => (f_L_law_b281 D self138 M18 a3 a5 a6 a7 x2 x19)))))))) else (gNz 3 (gNz 3 (gNz 3 (gNz 9 (gNz 5000 (qb (f_W_claim M1 1 (4 + (a7 - a7 / 3 * 3)) (7 + ((a7 / 3) - (a7 / 3) / 3 * 3)) (1 + ((a7 / 9) - (a7 / 9) / 5000 * 5000))) (fun x21 M20 => (f_L_law_b281 D self138 M20 a3 a5 a6 a7 x2 x21))))))))))))))))
def f_L_law_b912 (D : Int32 → Int32) (M : gM) (a4 : Int32) : gR := (if a4 = 0 then (gOne 0 (rRet 1 M)) else (rbN (f_L_entries M 3) (fun x2 M1 => (if x2 = 0 then (gOne 0 (rRet 1 M1)) else (gOne 1 (rRet 1 M1))))))
def f_L_law_lb138 (D : Int32 → Int32) (self138 : gM → Int32 → Int32 → Int32 → gR) (M : gM) (a3 : Int32) (a4 : Int32) (a5 : Int32) : gR := (if 46 ≤ a5 then (f_L_law_b912 D M a4) else (if a4 = 0 then (f_L_law_b912 D M a4) else (gPs (2 * a5) (bV (D (2 * a5)) (fun x1 => (gPs ((2 * a5) + 1) (bV (D ((2 * a5) + 1)) (fun x2 => (if 3 ≤ a5 then (gNz 16 (f_L_law_b187 D self138 M a3 a5 x1 x2 (x1 - x1 / 16 * 16))) else (f_L_law_b187 D self138 M a3 a5 x1 x2 0))))))))))
def f_L_law_l138 (D : Int32 → Int32) : Nat → gM → Int32 → Int32 → Int32 → gR
  | 0, _, _, _, _ => rStuck
  | n + 1, M, a3, a4, a5 => f_L_law_lb138 D (f_L_law_l138 D n) M a3 a4 a5
def f_L_law_b135 (D : Int32 → Int32) (M : gM) (a3 : Int32) (a4 : Int32) : gR := (f_L_law_l138 D 47 M a3 a4 0)
def f_L_law_lb53 (D : Int32 → Int32) (self53 : gM → Int32 → Int32 → Int32 → gR) (M : gM) (a3 : Int32) (a4 : Int32) (a5 : Int32) : gR := (if 6 ≤ a5 then (f_L_law_b135 D M a3 a4) else (if a4 = 0 then (f_L_law_b135 D M a3 a4) else (gNz 2 (qb (f_W_join M 0 a5 (a5 - a5 / 2 * 2)) (fun x2 M1 => (if x2 = (a5.toInt64 + 1) then (gNz 3 (qb (f_W_join M1 1 (a5 + 4) (a5 / 3)) (fun x4 M3 => (if x4 = (a5.toInt64 + 1) then (qb (f_W_join M3 0 a5 0) (fun x6 M5 => (if x6 = (-9000000000000000003) then (bV (a5 + 1) (fun x7 => (self53 M5 a3 1 x7))) else (bV (a5 + 1) (fun x8 => (self53 M5 a3 0 x8)))))) else (bV (a5 + 1) (fun x9 => (self53 M3 a3 0 x9))))))) else (bV (a5 + 1) (fun x10 => (self53 M1 a3 0 x10)))))))))
def f_L_law_l53 (D : Int32 → Int32) : Nat → gM → Int32 → Int32 → Int32 → gR
  | 0, _, _, _, _ => rStuck
  | n + 1, M, a3, a4, a5 => f_L_law_lb53 D (f_L_law_l53 D n) M a3 a4 a5
def f_L_law_b48 (D : Int32 → Int32) (M : gM) (a3 : Int32) (t0 : Int32) : gR := (f_L_law_l53 D 7 M a3 t0 0)
def f_L_law_b47 (D : Int32 → Int32) (M : gM) (a3 : Int32) : gR := (f_L_law_b48 D M a3 0)
def f_L_law (D : Int32 → Int32) (M : gM) (a3 : Int32) : gR := (rbN (f_L_refuses M 0) (fun x2 M1 => (if x2 = 0 then (f_L_law_b47 D M1 a3) else (qb (f_W_open M1 0) (fun x4 M3 => (if x4 = 0 then (qb (f_W_open M3 1) (fun x6 M5 => (if x6 = 1 then (f_L_law_b48 D M5 a3 1) else (f_L_law_b47 D M5 a3)))) else (f_L_law_b47 D M3 a3)))))))
set_option maxRecDepth 20000 in
set_option maxHeartbeats 4000000 in
theorem g_L_law_b874 {p : Program} {l : Launch} {e : Env} {s : State} {m : MethodId} {below : List Frame} {meth : Method} {c : Code} {Z : gZ} {Q : State → Prop} {b L : Nat} {xs : Nat → Int32} {D : Int32 → Int32} (hfl : l.stackTraces = false) (hC : gD p s m #[Value.ref b] c cL_law 14 RL Z) (hNc : gNc s) (hL : L ≤ 260) (hX : va_X b L xs s s.heap) (hbl : b < s.heap.size) (hbA : ¬ zA Z b) (hdr : ∀ x, D x = drw L xs x) (hend : ∀ (k : Nat) (M : gM) (lv : List (Nat × Value)), k ≤ 33146 → gV p l e room_1 s m #[Value.ref b] below meth c 14 Z Q k M 930 lv [.int 1]) {self138 : gM → Int32 → Int32 → Int32 → gR} {kk : Nat} (hk : kk + 609 ≤ 32814) (hs138 : ∀ (M : gM) (a3 : Int32) (a4 : Int32) (a5 : Int32), gY p l e room_1 s m #[Value.ref b] below meth c 14 Z (fun _ => Q) (kk + 609) M 138 [(0, .ref b), (1, .ref (zad Z 0)), (2, .ref (zad Z 146)), (3, .int a3), (4, .int a4), (5, .int a5)] [] (self138 M a3 a4 a5)) (M : gM) (a3 : Int32) (a5 : Int32) (t0 : Int32) : gY p l e room_1 s m #[Value.ref b] below meth c 14 Z (fun _ => Q) (kk + 504) M 874 [(0, .ref b), (1, .ref (zad Z 0)), (2, .ref (zad Z 146)), (3, .int a3), (5, .int a5)] [.int t0] (f_L_law_b874 D self138 M a3 a5 t0) := by
  unfold f_L_law_b874
  refine h_istore hC (lv1 := [(4, .int t0), (0, .ref b), (1, .ref (zad Z 0)), (2, .ref (zad Z 146)), (3, .int a3), (5, .int a5)]) dL_law_874 (by decide) rfl ?_
  refine h_iload hC 5 dL_law_876 rfl ?_
  refine h_bipush hC (v := 15) dL_law_878 (by decide) ?_
  refine h_irem hC dL_law_880 ?_
  refine h_bipush hC (v := 14) dL_law_881 (by decide) ?_
  refine h_icmp_ne (tgt := 906) hC dL_law_883 (by decide) (fun _ => ?_) (fun _ => ?_)
  · refine h_iload hC 0 dL_law_886 rfl ?_
    refine h_if_eq (tgt := 903) hC dL_law_888 (by decide) (fun _ => ?_) (fun _ => ?_)
    · refine h_iconst hC (v := 0) dL_law_903 (by decide) ?_
      refine h_istore hC (lv1 := [(4, .int 0), (0, .ref b), (1, .ref (zad Z 0)), (2, .ref (zad Z 146)), (3, .int a3), (5, .int a5)]) dL_law_904 (by decide) rfl ?_
      refine h_iinc hC 5 (v := 1) (fun x1 => [(5, .int x1), (4, .int 0), (0, .ref b), (1, .ref (zad Z 0)), (2, .ref (zad Z 146)), (3, .int a3)]) dL_law_906 rfl (by decide) (by decide) (fun _ => rfl) (fun x1 => ?_)
      refine h_goto (tgt := 138) hC dL_law_909 (by decide) ?_
      refine h_sub (lv1 := [(0, .ref b), (1, .ref (zad Z 0)), (2, .ref (zad Z 146)), (3, .int a3), (4, .int 0), (5, .int x1)]) [2, 3, 4, 5, 1, 0] rfl ?_
      refine h_widen (k1 := kk + 609) (by omega) ?_
      exact hs138 M a3 0 x1
    · refine h_aload_n hC 2 dL_law_891 rfl rfl ?_
      refine h_iload_n hC 4 dL_law_892 rfl rfl ?_
      refine h_callB (n := 2) hC [.ref (zad Z 0), .int a3] hNc (c_L_refuses hfl Z M a3) lk_L_311 mw_L_refuses.1 mw_L_refuses.2.1 mw_L_refuses.2.2 ⟨by decide, by decide, by decide +kernel⟩ rfl rfl ⟨by decide, by decide⟩ rfl rfl (Nat.le_of_ble_eq_true rfl) (show (kk + 504) + 105 ≤ 600104 from by omega) (show 6 * ((kk + 504) + 105) ≤ 7301313 from by omega) dL_law_893 (fun x3 M2 => ?_)
      refine h_if_eq (tgt := 903) hC dL_law_896 (by decide) (fun _ => ?_) (fun _ => ?_)
      · refine h_iconst hC (v := 0) dL_law_903 (by decide) ?_
        refine h_istore hC (lv1 := [(4, .int 0), (0, .ref b), (1, .ref (zad Z 0)), (2, .ref (zad Z 146)), (3, .int a3), (5, .int a5)]) dL_law_904 (by decide) rfl ?_
        refine h_iinc hC 5 (v := 1) (fun x4 => [(5, .int x4), (4, .int 0), (0, .ref b), (1, .ref (zad Z 0)), (2, .ref (zad Z 146)), (3, .int a3)]) dL_law_906 rfl (by decide) (by decide) (fun _ => rfl) (fun x4 => ?_)
        refine h_goto (tgt := 138) hC dL_law_909 (by decide) ?_
        refine h_sub (lv1 := [(0, .ref b), (1, .ref (zad Z 0)), (2, .ref (zad Z 146)), (3, .int a3), (4, .int 0), (5, .int x4)]) [2, 3, 4, 5, 1, 0] rfl ?_
        refine h_widen (k1 := kk + 609) (by omega) ?_
        exact hs138 M2 a3 0 x4
      · refine h_iconst hC (v := 1) dL_law_899 (by decide) ?_
        refine h_goto (tgt := 904) hC dL_law_900 (by decide) ?_
        refine h_istore hC (lv1 := [(4, .int 1), (0, .ref b), (1, .ref (zad Z 0)), (2, .ref (zad Z 146)), (3, .int a3), (5, .int a5)]) dL_law_904 (by decide) rfl ?_
        refine h_iinc hC 5 (v := 1) (fun x5 => [(5, .int x5), (4, .int 1), (0, .ref b), (1, .ref (zad Z 0)), (2, .ref (zad Z 146)), (3, .int a3)]) dL_law_906 rfl (by decide) (by decide) (fun _ => rfl) (fun x5 => ?_)
        refine h_goto (tgt := 138) hC dL_law_909 (by decide) ?_
        refine h_sub (lv1 := [(0, .ref b), (1, .ref (zad Z 0)), (2, .ref (zad Z 146)), (3, .int a3), (4, .int 1), (5, .int x5)]) [2, 3, 4, 5, 1, 0] rfl ?_
        refine h_widen (k1 := kk + 609) (by omega) ?_
        exact hs138 M2 a3 1 x5
  · refine h_iinc hC 5 (v := 1) (fun x6 => [(5, .int x6), (4, .int t0), (0, .ref b), (1, .ref (zad Z 0)), (2, .ref (zad Z 146)), (3, .int a3)]) dL_law_906 rfl (by decide) (by decide) (fun _ => rfl) (fun x6 => ?_)
    refine h_goto (tgt := 138) hC dL_law_909 (by decide) ?_
    refine h_sub (lv1 := [(0, .ref b), (1, .ref (zad Z 0)), (2, .ref (zad Z 146)), (3, .int a3), (4, .int t0), (5, .int x6)]) [2, 3, 4, 5, 1, 0] rfl ?_
    refine h_widen (k1 := kk + 609) (by omega) ?_
    exact hs138 M a3 t0 x6
set_option maxRecDepth 20000 in
set_option maxHeartbeats 4000000 in
theorem g_L_law_b869 {p : Program} {l : Launch} {e : Env} {s : State} {m : MethodId} {below : List Frame} {meth : Method} {c : Code} {Z : gZ} {Q : State → Prop} {b L : Nat} {xs : Nat → Int32} {D : Int32 → Int32} (hfl : l.stackTraces = false) (hC : gD p s m #[Value.ref b] c cL_law 14 RL Z) (hNc : gNc s) (hL : L ≤ 260) (hX : va_X b L xs s s.heap) (hbl : b < s.heap.size) (hbA : ¬ zA Z b) (hdr : ∀ x, D x = drw L xs x) (hend : ∀ (k : Nat) (M : gM) (lv : List (Nat × Value)), k ≤ 33146 → gV p l e room_1 s m #[Value.ref b] below meth c 14 Z Q k M 930 lv [.int 1]) {self138 : gM → Int32 → Int32 → Int32 → gR} {kk : Nat} (hk : kk + 609 ≤ 32814) (hs138 : ∀ (M : gM) (a3 : Int32) (a4 : Int32) (a5 : Int32), gY p l e room_1 s m #[Value.ref b] below meth c 14 Z (fun _ => Q) (kk + 609) M 138 [(0, .ref b), (1, .ref (zad Z 0)), (2, .ref (zad Z 146)), (3, .int a3), (4, .int a4), (5, .int a5)] [] (self138 M a3 a4 a5)) (M : gM) (a3 : Int32) (a5 : Int32) : gY p l e room_1 s m #[Value.ref b] below meth c 14 Z (fun _ => Q) (kk + 504) M 869 [(0, .ref b), (1, .ref (zad Z 0)), (2, .ref (zad Z 146)), (3, .int a3), (5, .int a5)] [] (f_L_law_b869 D self138 M a3 a5) := by
  unfold f_L_law_b869
  refine h_iconst hC (v := 1) dL_law_869 (by decide) ?_
  refine h_goto (tgt := 874) hC dL_law_870 (by decide) ?_
  exact g_L_law_b874 hfl hC hNc hL hX hbl hbA hdr hend hk hs138 M a3 a5 1
set_option maxRecDepth 20000 in
set_option maxHeartbeats 4000000 in
theorem g_L_law_b873 {p : Program} {l : Launch} {e : Env} {s : State} {m : MethodId} {below : List Frame} {meth : Method} {c : Code} {Z : gZ} {Q : State → Prop} {b L : Nat} {xs : Nat → Int32} {D : Int32 → Int32} (hfl : l.stackTraces = false) (hC : gD p s m #[Value.ref b] c cL_law 14 RL Z) (hNc : gNc s) (hL : L ≤ 260) (hX : va_X b L xs s s.heap) (hbl : b < s.heap.size) (hbA : ¬ zA Z b) (hdr : ∀ x, D x = drw L xs x) (hend : ∀ (k : Nat) (M : gM) (lv : List (Nat × Value)), k ≤ 33146 → gV p l e room_1 s m #[Value.ref b] below meth c 14 Z Q k M 930 lv [.int 1]) {self138 : gM → Int32 → Int32 → Int32 → gR} {kk : Nat} (hk : kk + 609 ≤ 32814) (hs138 : ∀ (M : gM) (a3 : Int32) (a4 : Int32) (a5 : Int32), gY p l e room_1 s m #[Value.ref b] below meth c 14 Z (fun _ => Q) (kk + 609) M 138 [(0, .ref b), (1, .ref (zad Z 0)), (2, .ref (zad Z 146)), (3, .int a3), (4, .int a4), (5, .int a5)] [] (self138 M a3 a4 a5)) (M : gM) (a3 : Int32) (a5 : Int32) : gY p l e room_1 s m #[Value.ref b] below meth c 14 Z (fun _ => Q) (kk + 504) M 873 [(0, .ref b), (1, .ref (zad Z 0)), (2, .ref (zad Z 146)), (3, .int a3), (5, .int a5)] [] (f_L_law_b873 D self138 M a3 a5) := by
  unfold f_L_law_b873
  refine h_iconst hC (v := 0) dL_law_873 (by decide) ?_
  exact g_L_law_b874 hfl hC hNc hL hX hbl hbA hdr hend hk hs138 M a3 a5 0
set_option maxRecDepth 20000 in
set_option maxHeartbeats 4000000 in
theorem g_L_law_b837 {p : Program} {l : Launch} {e : Env} {s : State} {m : MethodId} {below : List Frame} {meth : Method} {c : Code} {Z : gZ} {Q : State → Prop} {b L : Nat} {xs : Nat → Int32} {D : Int32 → Int32} (hfl : l.stackTraces = false) (hC : gD p s m #[Value.ref b] c cL_law 14 RL Z) (hNc : gNc s) (hL : L ≤ 260) (hX : va_X b L xs s s.heap) (hbl : b < s.heap.size) (hbA : ¬ zA Z b) (hdr : ∀ x, D x = drw L xs x) (hend : ∀ (k : Nat) (M : gM) (lv : List (Nat × Value)), k ≤ 33146 → gV p l e room_1 s m #[Value.ref b] below meth c 14 Z Q k M 930 lv [.int 1]) {self138 : gM → Int32 → Int32 → Int32 → gR} {kk : Nat} (hk : kk + 609 ≤ 32814) (hs138 : ∀ (M : gM) (a3 : Int32) (a4 : Int32) (a5 : Int32), gY p l e room_1 s m #[Value.ref b] below meth c 14 Z (fun _ => Q) (kk + 609) M 138 [(0, .ref b), (1, .ref (zad Z 0)), (2, .ref (zad Z 146)), (3, .int a3), (4, .int a4), (5, .int a5)] [] (self138 M a3 a4 a5)) (M : gM) (a3 : Int32) (a4 : Int32) (a5 : Int32) (a6 : Int32) (a7 : Int32) : gY p l e room_1 s m #[Value.ref b] below meth c 14 Z (fun _ => Q) (kk + 13) M 837 [(0, .ref b), (1, .ref (zad Z 0)), (2, .ref (zad Z 146)), (3, .int a3), (4, .int a4), (5, .int a5), (6, .int a6), (7, .int a7)] [] (f_L_law_b837 D self138 M a3 a4 a5 a6 a7) := by
  unfold f_L_law_b837
  refine h_iload hC 4 dL_law_837 rfl ?_
  refine h_if_eq (tgt := 873) hC dL_law_839 (by decide) (fun _ => ?_) (fun _ => ?_)
  · refine h_sub (lv1 := [(0, .ref b), (1, .ref (zad Z 0)), (2, .ref (zad Z 146)), (3, .int a3), (5, .int a5)]) [0, 1, 2, 3, 5] rfl ?_
    refine h_widen (k1 := (kk + 504)) (by omega) ?_
    exact g_L_law_b873 hfl hC hNc hL hX hbl hbA hdr hend hk hs138 M a3 a5
  · refine h_aload_n hC 1 dL_law_842 rfl rfl ?_
    refine h_iload_n hC 3 dL_law_843 rfl rfl ?_
    refine h_aload_n hC 2 dL_law_844 rfl rfl ?_
    refine h_iload hC 7 dL_law_845 rfl ?_
    refine h_callB (n := 4) hC [.ref (zad Z 0), .int a3, .ref (zad Z 146), .int a7] hNc (c_L_agrees hfl Z M a3 a7) lk_L_327 mw_L_agrees.1 mw_L_agrees.2.1 mw_L_agrees.2.2 ⟨by decide, by decide, by decide +kernel⟩ rfl rfl ⟨by decide, by decide⟩ rfl rfl (Nat.le_of_ble_eq_true rfl) (show (kk + 13) + 159 ≤ 600104 from by omega) (show 6 * ((kk + 13) + 159) ≤ 7301313 from by omega) dL_law_847 (fun x2 M1 => ?_)
    refine h_if_eq (tgt := 873) hC dL_law_850 (by decide) (fun _ => ?_) (fun _ => ?_)
    · refine h_sub (lv1 := [(0, .ref b), (1, .ref (zad Z 0)), (2, .ref (zad Z 146)), (3, .int a3), (5, .int a5)]) [0, 1, 2, 3, 5] rfl ?_
      refine h_widen (k1 := (kk + 504)) (by omega) ?_
      exact g_L_law_b873 hfl hC hNc hL hX hbl hbA hdr hend hk hs138 M1 a3 a5
    · refine h_iload hC 5 dL_law_853 rfl ?_
      refine h_iconst hC (v := 5) dL_law_855 (by decide) ?_
      refine h_irem hC dL_law_856 ?_
      refine h_if_gt (tgt := 869) hC dL_law_857 (by decide) (fun _ => ?_) (fun _ => ?_)
      · refine h_sub (lv1 := [(0, .ref b), (1, .ref (zad Z 0)), (2, .ref (zad Z 146)), (3, .int a3), (5, .int a5)]) [0, 1, 2, 3, 5] rfl ?_
        refine h_widen (k1 := (kk + 504)) (by omega) ?_
        exact g_L_law_b869 hfl hC hNc hL hX hbl hbA hdr hend hk hs138 M1 a3 a5
      · refine h_aload_n hC 1 dL_law_860 rfl rfl ?_
        refine h_iload hC 6 dL_law_861 rfl ?_
        refine h_callB (n := 2) hC [.ref (zad Z 0), .int a6] hNc (c_L_entries hfl Z M1 a6) lk_L_331 mw_L_entries.1 mw_L_entries.2.1 mw_L_entries.2.2 ⟨by decide, by decide, by decide +kernel⟩ rfl rfl ⟨by decide, by decide⟩ rfl rfl (Nat.le_of_ble_eq_true rfl) (show (kk + 172) + 332 ≤ 600104 from by omega) (show 6 * ((kk + 172) + 332) ≤ 7301313 from by omega) dL_law_863 (fun x4 M3 => ?_)
        refine h_if_eq (tgt := 873) hC dL_law_866 (by decide) (fun _ => ?_) (fun _ => ?_)
        · refine h_sub (lv1 := [(0, .ref b), (1, .ref (zad Z 0)), (2, .ref (zad Z 146)), (3, .int a3), (5, .int a5)]) [0, 1, 2, 3, 5] rfl ?_
          exact g_L_law_b873 hfl hC hNc hL hX hbl hbA hdr hend hk hs138 M3 a3 a5
        · refine h_sub (lv1 := [(0, .ref b), (1, .ref (zad Z 0)), (2, .ref (zad Z 146)), (3, .int a3), (5, .int a5)]) [0, 1, 2, 3, 5] rfl ?_
          exact g_L_law_b869 hfl hC hNc hL hX hbl hbA hdr hend hk hs138 M3 a3 a5
set_option maxRecDepth 20000 in
set_option maxHeartbeats 4000000 in
theorem g_L_law_b389 {p : Program} {l : Launch} {e : Env} {s : State} {m : MethodId} {below : List Frame} {meth : Method} {c : Code} {Z : gZ} {Q : State → Prop} {b L : Nat} {xs : Nat → Int32} {D : Int32 → Int32} (hfl : l.stackTraces = false) (hC : gD p s m #[Value.ref b] c cL_law 14 RL Z) (hNc : gNc s) (hL : L ≤ 260) (hX : va_X b L xs s s.heap) (hbl : b < s.heap.size) (hbA : ¬ zA Z b) (hdr : ∀ x, D x = drw L xs x) (hend : ∀ (k : Nat) (M : gM) (lv : List (Nat × Value)), k ≤ 33146 → gV p l e room_1 s m #[Value.ref b] below meth c 14 Z Q k M 930 lv [.int 1]) {self138 : gM → Int32 → Int32 → Int32 → gR} {kk : Nat} (hk : kk + 609 ≤ 32814) (hs138 : ∀ (M : gM) (a3 : Int32) (a4 : Int32) (a5 : Int32), gY p l e room_1 s m #[Value.ref b] below meth c 14 Z (fun _ => Q) (kk + 609) M 138 [(0, .ref b), (1, .ref (zad Z 0)), (2, .ref (zad Z 146)), (3, .int a3), (4, .int a4), (5, .int a5)] [] (self138 M a3 a4 a5)) (M : gM) (a4 : Int32) (a5 : Int32) (a6 : Int32) (a7 : Int32) (t0 : Int32) (t1 : Int32) : gY p l e room_1 s m #[Value.ref b] below meth c 14 Z (fun _ => Q) (kk + 12) M 389 [(0, .ref b), (1, .ref (zad Z 0)), (2, .ref (zad Z 146)), (4, .int a4), (5, .int a5), (6, .int a6), (7, .int a7)] [.int t1, .int t0] (f_L_law_b389 D self138 M a4 a5 a6 a7 t0 t1) := by
  unfold f_L_law_b389
  refine h_iadd hC dL_law_389 ?_
  refine h_bv (fun x1 => ?_)
  refine h_istore_n hC (lv1 := [(3, .int x1), (0, .ref b), (1, .ref (zad Z 0)), (2, .ref (zad Z 146)), (4, .int a4), (5, .int a5), (6, .int a6), (7, .int a7)]) dL_law_390 rfl (by decide) rfl ?_
  refine h_goto (tgt := 837) hC dL_law_391 (by decide) ?_
  refine h_sub (lv1 := [(0, .ref b), (1, .ref (zad Z 0)), (2, .ref (zad Z 146)), (3, .int x1), (4, .int a4), (5, .int a5), (6, .int a6), (7, .int a7)]) [1, 2, 3, 0, 4, 5, 6, 7] rfl ?_
  refine h_widen (k1 := (kk + 13)) (by omega) ?_
  exact g_L_law_b837 hfl hC hNc hL hX hbl hbA hdr hend hk hs138 M x1 a4 a5 a6 a7
set_option maxRecDepth 20000 in
set_option maxHeartbeats 4000000 in
theorem g_L_law_b373 {p : Program} {l : Launch} {e : Env} {s : State} {m : MethodId} {below : List Frame} {meth : Method} {c : Code} {Z : gZ} {Q : State → Prop} {b L : Nat} {xs : Nat → Int32} {D : Int32 → Int32} (hfl : l.stackTraces = false) (hC : gD p s m #[Value.ref b] c cL_law 14 RL Z) (hNc : gNc s) (hL : L ≤ 260) (hX : va_X b L xs s s.heap) (hbl : b < s.heap.size) (hbA : ¬ zA Z b) (hdr : ∀ x, D x = drw L xs x) (hend : ∀ (k : Nat) (M : gM) (lv : List (Nat × Value)), k ≤ 33146 → gV p l e room_1 s m #[Value.ref b] below meth c 14 Z Q k M 930 lv [.int 1]) {self138 : gM → Int32 → Int32 → Int32 → gR} {kk : Nat} (hk : kk + 609 ≤ 32814) (hs138 : ∀ (M : gM) (a3 : Int32) (a4 : Int32) (a5 : Int32), gY p l e room_1 s m #[Value.ref b] below meth c 14 Z (fun _ => Q) (kk + 609) M 138 [(0, .ref b), (1, .ref (zad Z 0)), (2, .ref (zad Z 146)), (3, .int a3), (4, .int a4), (5, .int a5)] [] (self138 M a3 a4 a5)) (M : gM) (a3 : Int32) (a5 : Int32) (a6 : Int32) (a7 : Int32) (a11 : Int64) (t0 : Int32) : gY p l e room_1 s m #[Value.ref b] below meth c 14 Z (fun _ => Q) (kk + 12) M 373 [(0, .ref b), (1, .ref (zad Z 0)), (2, .ref (zad Z 146)), (3, .int a3), (5, .int a5), (6, .int a6), (7, .int a7), (11, .long a11)] [.int t0] (f_L_law_b373 D self138 M a3 a5 a6 a7 a11 t0) := by
  unfold f_L_law_b373
  refine h_istore hC (lv1 := [(4, .int t0), (0, .ref b), (1, .ref (zad Z 0)), (2, .ref (zad Z 146)), (3, .int a3), (5, .int a5), (6, .int a6), (7, .int a7), (11, .long a11)]) dL_law_373 (by decide) rfl ?_
  refine h_iload_n hC 4 dL_law_375 rfl rfl ?_
  refine h_lload hC 8 dL_law_376 rfl ?_
  refine h_iload_n hC 4 dL_law_378 rfl rfl ?_
  refine h_i2l hC dL_law_379 ?_
  refine h_lcmp_ne (tgt := 388) hC dL_law_380 dL_law_381 (by decide) (fun _ => ?_) (fun _ => ?_)
  · refine h_iconst hC (v := 1) dL_law_384 (by decide) ?_
    refine h_goto (tgt := 389) hC dL_law_385 (by decide) ?_
    refine h_sub (lv1 := [(0, .ref b), (1, .ref (zad Z 0)), (2, .ref (zad Z 146)), (4, .int t0), (5, .int a5), (6, .int a6), (7, .int a7)]) [1, 2, 3, 0, 5, 6, 7] rfl ?_
    exact g_L_law_b389 hfl hC hNc hL hX hbl hbA hdr hend hk hs138 M t0 a5 a6 a7 a3 1
  · refine h_iconst hC (v := 0) dL_law_388 (by decide) ?_
    refine h_sub (lv1 := [(0, .ref b), (1, .ref (zad Z 0)), (2, .ref (zad Z 146)), (4, .int t0), (5, .int a5), (6, .int a6), (7, .int a7)]) [1, 2, 3, 0, 5, 6, 7] rfl ?_
    exact g_L_law_b389 hfl hC hNc hL hX hbl hbA hdr hend hk hs138 M t0 a5 a6 a7 a3 0
set_option maxRecDepth 20000 in
set_option maxHeartbeats 4000000 in
theorem g_L_law_b368 {p : Program} {l : Launch} {e : Env} {s : State} {m : MethodId} {below : List Frame} {meth : Method} {c : Code} {Z : gZ} {Q : State → Prop} {b L : Nat} {xs : Nat → Int32} {D : Int32 → Int32} (hfl : l.stackTraces = false) (hC : gD p s m #[Value.ref b] c cL_law 14 RL Z) (hNc : gNc s) (hL : L ≤ 260) (hX : va_X b L xs s s.heap) (hbl : b < s.heap.size) (hbA : ¬ zA Z b) (hdr : ∀ x, D x = drw L xs x) (hend : ∀ (k : Nat) (M : gM) (lv : List (Nat × Value)), k ≤ 33146 → gV p l e room_1 s m #[Value.ref b] below meth c 14 Z Q k M 930 lv [.int 1]) {self138 : gM → Int32 → Int32 → Int32 → gR} {kk : Nat} (hk : kk + 609 ≤ 32814) (hs138 : ∀ (M : gM) (a3 : Int32) (a4 : Int32) (a5 : Int32), gY p l e room_1 s m #[Value.ref b] below meth c 14 Z (fun _ => Q) (kk + 609) M 138 [(0, .ref b), (1, .ref (zad Z 0)), (2, .ref (zad Z 146)), (3, .int a3), (4, .int a4), (5, .int a5)] [] (self138 M a3 a4 a5)) (M : gM) (a3 : Int32) (a5 : Int32) (a6 : Int32) (a7 : Int32) (a11 : Int64) : gY p l e room_1 s m #[Value.ref b] below meth c 14 Z (fun _ => Q) (kk + 12) M 368 [(0, .ref b), (1, .ref (zad Z 0)), (2, .ref (zad Z 146)), (3, .int a3), (5, .int a5), (6, .int a6), (7, .int a7), (11, .long a11)] [] (f_L_law_b368 D self138 M a3 a5 a6 a7 a11) := by
  unfold f_L_law_b368
  refine h_iconst hC (v := 1) dL_law_368 (by decide) ?_
  refine h_goto (tgt := 373) hC dL_law_369 (by decide) ?_
  exact g_L_law_b373 hfl hC hNc hL hX hbl hbA hdr hend hk hs138 M a3 a5 a6 a7 a11 1
set_option maxRecDepth 20000 in
set_option maxHeartbeats 4000000 in
theorem g_L_law_b372 {p : Program} {l : Launch} {e : Env} {s : State} {m : MethodId} {below : List Frame} {meth : Method} {c : Code} {Z : gZ} {Q : State → Prop} {b L : Nat} {xs : Nat → Int32} {D : Int32 → Int32} (hfl : l.stackTraces = false) (hC : gD p s m #[Value.ref b] c cL_law 14 RL Z) (hNc : gNc s) (hL : L ≤ 260) (hX : va_X b L xs s s.heap) (hbl : b < s.heap.size) (hbA : ¬ zA Z b) (hdr : ∀ x, D x = drw L xs x) (hend : ∀ (k : Nat) (M : gM) (lv : List (Nat × Value)), k ≤ 33146 → gV p l e room_1 s m #[Value.ref b] below meth c 14 Z Q k M 930 lv [.int 1]) {self138 : gM → Int32 → Int32 → Int32 → gR} {kk : Nat} (hk : kk + 609 ≤ 32814) (hs138 : ∀ (M : gM) (a3 : Int32) (a4 : Int32) (a5 : Int32), gY p l e room_1 s m #[Value.ref b] below meth c 14 Z (fun _ => Q) (kk + 609) M 138 [(0, .ref b), (1, .ref (zad Z 0)), (2, .ref (zad Z 146)), (3, .int a3), (4, .int a4), (5, .int a5)] [] (self138 M a3 a4 a5)) (M : gM) (a3 : Int32) (a5 : Int32) (a6 : Int32) (a7 : Int32) (a11 : Int64) : gY p l e room_1 s m #[Value.ref b] below meth c 14 Z (fun _ => Q) (kk + 12) M 372 [(0, .ref b), (1, .ref (zad Z 0)), (2, .ref (zad Z 146)), (3, .int a3), (5, .int a5), (6, .int a6), (7, .int a7), (11, .long a11)] [] (f_L_law_b372 D self138 M a3 a5 a6 a7 a11) := by
  unfold f_L_law_b372
  refine h_iconst hC (v := 0) dL_law_372 (by decide) ?_
  exact g_L_law_b373 hfl hC hNc hL hX hbl hbA hdr hend hk hs138 M a3 a5 a6 a7 a11 0
set_option maxRecDepth 20000 in
set_option maxHeartbeats 4000000 in
theorem g_L_law_b336 {p : Program} {l : Launch} {e : Env} {s : State} {m : MethodId} {below : List Frame} {meth : Method} {c : Code} {Z : gZ} {Q : State → Prop} {b L : Nat} {xs : Nat → Int32} {D : Int32 → Int32} (hfl : l.stackTraces = false) (hC : gD p s m #[Value.ref b] c cL_law 14 RL Z) (hNc : gNc s) (hL : L ≤ 260) (hX : va_X b L xs s s.heap) (hbl : b < s.heap.size) (hbA : ¬ zA Z b) (hdr : ∀ x, D x = drw L xs x) (hend : ∀ (k : Nat) (M : gM) (lv : List (Nat × Value)), k ≤ 33146 → gV p l e room_1 s m #[Value.ref b] below meth c 14 Z Q k M 930 lv [.int 1]) {self138 : gM → Int32 → Int32 → Int32 → gR} {kk : Nat} (hk : kk + 609 ≤ 32814) (hs138 : ∀ (M : gM) (a3 : Int32) (a4 : Int32) (a5 : Int32), gY p l e room_1 s m #[Value.ref b] below meth c 14 Z (fun _ => Q) (kk + 609) M 138 [(0, .ref b), (1, .ref (zad Z 0)), (2, .ref (zad Z 146)), (3, .int a3), (4, .int a4), (5, .int a5)] [] (self138 M a3 a4 a5)) (M : gM) (a3 : Int32) (a5 : Int32) (a6 : Int32) (a7 : Int32) (a11 : Int64) (t0 : Int64) (t1 : Int64) : gY p l e room_1 s m #[Value.ref b] below meth c 14 Z (fun _ => Q) (kk + 8) M 336 [(0, .ref b), (1, .ref (zad Z 0)), (2, .ref (zad Z 146)), (3, .int a3), (5, .int a5), (6, .int a6), (7, .int a7), (11, .long a11)] [.long t1, .long t0] (f_L_law_b336 D self138 M a3 a5 a6 a7 a11 t0 t1) := by
  unfold f_L_law_b336
  refine h_lcmp_ne (tgt := 372) hC dL_law_336 dL_law_337 (by decide) (fun _ => ?_) (fun _ => ?_)
  · refine h_aload_n hC 1 dL_law_340 rfl rfl ?_
    refine h_iconst hC (v := 0) dL_law_341 (by decide) ?_
    refine h_iload_n hC 3 dL_law_342 rfl rfl ?_
    refine h_callW (n := 3) hC [.ref (zad Z 0), .int 0, .int a3] hNc (c_L_due hfl Z M 0 a3) lk_L_199 mw_L_due.1 mw_L_due.2.1 mw_L_due.2.2 ⟨by decide, by decide, by decide +kernel⟩ rfl rfl ⟨by decide, by decide⟩ rfl rfl (Nat.le_of_ble_eq_true rfl) (show (kk + 8) + 2 ≤ 600104 from by omega) (show 6 * ((kk + 8) + 2) ≤ 7301313 from by omega) dL_law_343 (fun x2 M1 => ?_)
    refine h_ldc2 hC (v := (-1)) lc_L_204 dL_law_346 ?_
    refine h_lcmp_eq (tgt := 368) hC dL_law_349 dL_law_350 (by decide) (fun _ => ?_) (fun _ => ?_)
    · refine h_widen (k1 := (kk + 12)) (by omega) ?_
      exact g_L_law_b368 hfl hC hNc hL hX hbl hbA hdr hend hk hs138 M1 a3 a5 a6 a7 a11
    · refine h_aload_n hC 1 dL_law_353 rfl rfl ?_
      refine h_iconst hC (v := 0) dL_law_354 (by decide) ?_
      refine h_iload_n hC 3 dL_law_355 rfl rfl ?_
      refine h_callW (n := 3) hC [.ref (zad Z 0), .int 0, .int a3] hNc (c_L_due hfl Z M1 0 a3) lk_L_199 mw_L_due.1 mw_L_due.2.1 mw_L_due.2.2 ⟨by decide, by decide, by decide +kernel⟩ rfl rfl ⟨by decide, by decide⟩ rfl rfl (Nat.le_of_ble_eq_true rfl) (show (kk + 10) + 2 ≤ 600104 from by omega) (show 6 * ((kk + 10) + 2) ≤ 7301313 from by omega) dL_law_356 (fun x4 M3 => ?_)
      refine h_aload_n hC 1 dL_law_359 rfl rfl ?_
      refine h_callN (n := 0) hC [] 0 8 (by decide) rfl rfl (c_X8_today hfl Z M3 ) lk_L_214 mw_X8_today.1 mw_X8_today.2.1 mw_X8_today.2.2.1 mw_X8_today.2.2.2 ⟨rfl, by decide, by decide, by decide +kernel⟩ rfl rfl ⟨by decide, by decide⟩ rfl rfl (Nat.le_of_ble_eq_true rfl) (show (kk + 12) ≤ 600104 from by omega) (show 6 * ((kk + 12)) ≤ 7301313 from by omega) dL_law_360 (fun x6 M5 => ?_)
      refine h_i2l hC dL_law_363 ?_
      refine h_lcmp_le (tgt := 372) hC dL_law_364 dL_law_365 (by decide) (fun _ => ?_) (fun _ => ?_)
      · exact g_L_law_b372 hfl hC hNc hL hX hbl hbA hdr hend hk hs138 M5 a3 a5 a6 a7 a11
      · exact g_L_law_b368 hfl hC hNc hL hX hbl hbA hdr hend hk hs138 M5 a3 a5 a6 a7 a11
  · refine h_widen (k1 := (kk + 12)) (by omega) ?_
    exact g_L_law_b372 hfl hC hNc hL hX hbl hbA hdr hend hk hs138 M a3 a5 a6 a7 a11
set_option maxRecDepth 20000 in
set_option maxHeartbeats 4000000 in
theorem g_L_law_b281 {p : Program} {l : Launch} {e : Env} {s : State} {m : MethodId} {below : List Frame} {meth : Method} {c : Code} {Z : gZ} {Q : State → Prop} {b L : Nat} {xs : Nat → Int32} {D : Int32 → Int32} (hfl : l.stackTraces = false) (hC : gD p s m #[Value.ref b] c cL_law 14 RL Z) (hNc : gNc s) (hL : L ≤ 260) (hX : va_X b L xs s s.heap) (hbl : b < s.heap.size) (hbA : ¬ zA Z b) (hdr : ∀ x, D x = drw L xs x) (hend : ∀ (k : Nat) (M : gM) (lv : List (Nat × Value)), k ≤ 33146 → gV p l e room_1 s m #[Value.ref b] below meth c 14 Z Q k M 930 lv [.int 1]) {self138 : gM → Int32 → Int32 → Int32 → gR} {kk : Nat} (hk : kk + 609 ≤ 32814) (hs138 : ∀ (M : gM) (a3 : Int32) (a4 : Int32) (a5 : Int32), gY p l e room_1 s m #[Value.ref b] below meth c 14 Z (fun _ => Q) (kk + 609) M 138 [(0, .ref b), (1, .ref (zad Z 0)), (2, .ref (zad Z 146)), (3, .int a3), (4, .int a4), (5, .int a5)] [] (self138 M a3 a4 a5)) (M : gM) (a3 : Int32) (a5 : Int32) (a6 : Int32) (a7 : Int32) (a9 : Int32) (t0 : Int64) : gY p l e room_1 s m #[Value.ref b] below meth c 14 Z (fun _ => Q) (kk + 5) M 281 [(0, .ref b), (1, .ref (zad Z 0)), (2, .ref (zad Z 146)), (3, .int a3), (5, .int a5), (6, .int a6), (7, .int a7), (9, .int a9)] [.long t0] (f_L_law_b281 D self138 M a3 a5 a6 a7 a9 t0) := by
  unfold f_L_law_b281
  refine h_lstore hC (lv1 := [(11, .long t0), (0, .ref b), (1, .ref (zad Z 0)), (2, .ref (zad Z 146)), (3, .int a3), (5, .int a5), (6, .int a6), (7, .int a7), (9, .int a9)]) dL_law_281 (by decide) rfl ?_
  refine h_lload hC 0 dL_law_283 rfl ?_
  refine h_ldc2 hC (v := (-9000000000000000003)) lc_L_21 dL_law_285 ?_
  refine h_lcmp_eq (tgt := 368) hC dL_law_288 dL_law_289 (by decide) (fun _ => ?_) (fun _ => ?_)
  · refine h_sub (lv1 := [(0, .ref b), (1, .ref (zad Z 0)), (2, .ref (zad Z 146)), (3, .int a3), (5, .int a5), (6, .int a6), (7, .int a7), (11, .long t0)]) [1, 2, 3, 4, 5, 6, 7, 0] rfl ?_
    refine h_widen (k1 := (kk + 12)) (by omega) ?_
    exact g_L_law_b368 hfl hC hNc hL hX hbl hbA hdr hend hk hs138 M a3 a5 a6 a7 t0
  · refine h_lload hC 0 dL_law_292 rfl ?_
    refine h_iload_n hC 4 dL_law_294 rfl rfl ?_
    refine h_i2l hC dL_law_295 ?_
    refine h_lcmp_ne (tgt := 372) hC dL_law_296 dL_law_297 (by decide) (fun _ => ?_) (fun _ => ?_)
    · refine h_aload_n hC 2 dL_law_300 rfl rfl ?_
      refine h_iload_n hC 4 dL_law_301 rfl rfl ?_
      refine h_callW (n := 2) hC [.ref (zad Z 0), .int a3] hNc (c_L_stateOf hfl Z M a3) lk_L_182 mw_L_stateOf.1 mw_L_stateOf.2.1 mw_L_stateOf.2.2 ⟨by decide, by decide, by decide +kernel⟩ rfl rfl ⟨by decide, by decide⟩ rfl rfl (Nat.le_of_ble_eq_true rfl) (show (kk + 5) + 1 ≤ 600104 from by omega) (show 6 * ((kk + 5) + 1) ≤ 7301313 from by omega) dL_law_302 (fun x2 M1 => ?_)
      refine h_lconst hC (v := 0) dL_law_305 (by decide) ?_
      refine h_lcmp_ne (tgt := 372) hC dL_law_306 dL_law_307 (by decide) (fun _ => ?_) (fun _ => ?_)
      · refine h_aload_n hC 2 dL_law_310 rfl rfl ?_
        refine h_iload_n hC 4 dL_law_311 rfl rfl ?_
        refine h_iload hC 7 dL_law_312 rfl ?_
        refine h_iconst hC (v := 3) dL_law_314 (by decide) ?_
        refine h_irem hC dL_law_315 ?_
        refine h_callW (n := 3) hC [.ref (zad Z 0), .int a3, .int (a7 - a7 / 3 * 3)] hNc (c_L_serve hfl Z M1 a3 (a7 - a7 / 3 * 3)) lk_L_244 mw_L_serve.1 mw_L_serve.2.1 mw_L_serve.2.2 ⟨by decide, by decide, by decide +kernel⟩ rfl rfl ⟨by decide, by decide⟩ rfl rfl (Nat.le_of_ble_eq_true rfl) (show (kk + 6) + 2 ≤ 600104 from by omega) (show 6 * ((kk + 6) + 2) ≤ 7301313 from by omega) dL_law_316 (fun x4 M3 => ?_)
        refine h_iload hC 8 dL_law_319 rfl ?_
        refine h_sipush hC (v := 160) dL_law_321 (by decide) ?_
        refine h_icmp_ne (tgt := 333) hC dL_law_324 (by decide) (fun _ => ?_) (fun _ => ?_)
        · refine h_ldc2 hC (v := (-9000000000000000003)) lc_L_21 dL_law_327 ?_
          refine h_goto (tgt := 336) hC dL_law_330 (by decide) ?_
          refine h_sub (lv1 := [(0, .ref b), (1, .ref (zad Z 0)), (2, .ref (zad Z 146)), (3, .int a3), (5, .int a5), (6, .int a6), (7, .int a7), (11, .long t0)]) [1, 2, 3, 4, 5, 6, 7, 0] rfl ?_
          exact g_L_law_b336 hfl hC hNc hL hX hbl hbA hdr hend hk hs138 M3 a3 a5 a6 a7 t0 x4 (-9000000000000000003)
        · refine h_iload hC 8 dL_law_333 rfl ?_
          refine h_i2l hC dL_law_335 ?_
          refine h_sub (lv1 := [(0, .ref b), (1, .ref (zad Z 0)), (2, .ref (zad Z 146)), (3, .int a3), (5, .int a5), (6, .int a6), (7, .int a7), (11, .long t0)]) [1, 2, 3, 4, 5, 6, 7, 0] rfl ?_
          exact g_L_law_b336 hfl hC hNc hL hX hbl hbA hdr hend hk hs138 M3 a3 a5 a6 a7 t0 x4 a9.toInt64
      · refine h_sub (lv1 := [(0, .ref b), (1, .ref (zad Z 0)), (2, .ref (zad Z 146)), (3, .int a3), (5, .int a5), (6, .int a6), (7, .int a7), (11, .long t0)]) [1, 2, 3, 4, 5, 6, 7, 0] rfl ?_
        refine h_widen (k1 := (kk + 12)) (by omega) ?_
        exact g_L_law_b372 hfl hC hNc hL hX hbl hbA hdr hend hk hs138 M1 a3 a5 a6 a7 t0
    · refine h_sub (lv1 := [(0, .ref b), (1, .ref (zad Z 0)), (2, .ref (zad Z 146)), (3, .int a3), (5, .int a5), (6, .int a6), (7, .int a7), (11, .long t0)]) [1, 2, 3, 4, 5, 6, 7, 0] rfl ?_
      refine h_widen (k1 := (kk + 12)) (by omega) ?_
      exact g_L_law_b372 hfl hC hNc hL hX hbl hbA hdr hend hk hs138 M a3 a5 a6 a7 t0
set_option maxRecDepth 20000 in
set_option maxHeartbeats 4000000 in
theorem g_L_law_b499 {p : Program} {l : Launch} {e : Env} {s : State} {m : MethodId} {below : List Frame} {meth : Method} {c : Code} {Z : gZ} {Q : State → Prop} {b L : Nat} {xs : Nat → Int32} {D : Int32 → Int32} (hfl : l.stackTraces = false) (hC : gD p s m #[Value.ref b] c cL_law 14 RL Z) (hNc : gNc s) (hL : L ≤ 260) (hX : va_X b L xs s s.heap) (hbl : b < s.heap.size) (hbA : ¬ zA Z b) (hdr : ∀ x, D x = drw L xs x) (hend : ∀ (k : Nat) (M : gM) (lv : List (Nat × Value)), k ≤ 33146 → gV p l e room_1 s m #[Value.ref b] below meth c 14 Z Q k M 930 lv [.int 1]) {self138 : gM → Int32 → Int32 → Int32 → gR} {kk : Nat} (hk : kk + 609 ≤ 32814) (hs138 : ∀ (M : gM) (a3 : Int32) (a4 : Int32) (a5 : Int32), gY p l e room_1 s m #[Value.ref b] below meth c 14 Z (fun _ => Q) (kk + 609) M 138 [(0, .ref b), (1, .ref (zad Z 0)), (2, .ref (zad Z 146)), (3, .int a3), (4, .int a4), (5, .int a5)] [] (self138 M a3 a4 a5)) (M : gM) (a3 : Int32) (a5 : Int32) (a6 : Int32) (a7 : Int32) (t0 : Int32) : gY p l e room_1 s m #[Value.ref b] below meth c 14 Z (fun _ => Q) (kk + 13) M 499 [(0, .ref b), (1, .ref (zad Z 0)), (2, .ref (zad Z 146)), (3, .int a3), (5, .int a5), (6, .int a6), (7, .int a7)] [.int t0] (f_L_law_b499 D self138 M a3 a5 a6 a7 t0) := by
  unfold f_L_law_b499
  refine h_istore hC (lv1 := [(4, .int t0), (0, .ref b), (1, .ref (zad Z 0)), (2, .ref (zad Z 146)), (3, .int a3), (5, .int a5), (6, .int a6), (7, .int a7)]) dL_law_499 (by decide) rfl ?_
  refine h_goto (tgt := 837) hC dL_law_501 (by decide) ?_
  refine h_sub (lv1 := [(0, .ref b), (1, .ref (zad Z 0)), (2, .ref (zad Z 146)), (3, .int a3), (4, .int t0), (5, .int a5), (6, .int a6), (7, .int a7)]) [1, 2, 3, 4, 0, 5, 6, 7] rfl ?_
  exact g_L_law_b837 hfl hC hNc hL hX hbl hbA hdr hend hk hs138 M a3 t0 a5 a6 a7
set_option maxRecDepth 20000 in
set_option maxHeartbeats 4000000 in
theorem g_L_law_b494 {p : Program} {l : Launch} {e : Env} {s : State} {m : MethodId} {below : List Frame} {meth : Method} {c : Code} {Z : gZ} {Q : State → Prop} {b L : Nat} {xs : Nat → Int32} {D : Int32 → Int32} (hfl : l.stackTraces = false) (hC : gD p s m #[Value.ref b] c cL_law 14 RL Z) (hNc : gNc s) (hL : L ≤ 260) (hX : va_X b L xs s s.heap) (hbl : b < s.heap.size) (hbA : ¬ zA Z b) (hdr : ∀ x, D x = drw L xs x) (hend : ∀ (k : Nat) (M : gM) (lv : List (Nat × Value)), k ≤ 33146 → gV p l e room_1 s m #[Value.ref b] below meth c 14 Z Q k M 930 lv [.int 1]) {self138 : gM → Int32 → Int32 → Int32 → gR} {kk : Nat} (hk : kk + 609 ≤ 32814) (hs138 : ∀ (M : gM) (a3 : Int32) (a4 : Int32) (a5 : Int32), gY p l e room_1 s m #[Value.ref b] below meth c 14 Z (fun _ => Q) (kk + 609) M 138 [(0, .ref b), (1, .ref (zad Z 0)), (2, .ref (zad Z 146)), (3, .int a3), (4, .int a4), (5, .int a5)] [] (self138 M a3 a4 a5)) (M : gM) (a3 : Int32) (a5 : Int32) (a6 : Int32) (a7 : Int32) : gY p l e room_1 s m #[Value.ref b] below meth c 14 Z (fun _ => Q) (kk + 13) M 494 [(0, .ref b), (1, .ref (zad Z 0)), (2, .ref (zad Z 146)), (3, .int a3), (5, .int a5), (6, .int a6), (7, .int a7)] [] (f_L_law_b494 D self138 M a3 a5 a6 a7) := by
  unfold f_L_law_b494
  refine h_iconst hC (v := 1) dL_law_494 (by decide) ?_
  refine h_goto (tgt := 499) hC dL_law_495 (by decide) ?_
  exact g_L_law_b499 hfl hC hNc hL hX hbl hbA hdr hend hk hs138 M a3 a5 a6 a7 1
set_option maxRecDepth 20000 in
set_option maxHeartbeats 4000000 in
theorem g_L_law_b475 {p : Program} {l : Launch} {e : Env} {s : State} {m : MethodId} {below : List Frame} {meth : Method} {c : Code} {Z : gZ} {Q : State → Prop} {b L : Nat} {xs : Nat → Int32} {D : Int32 → Int32} (hfl : l.stackTraces = false) (hC : gD p s m #[Value.ref b] c cL_law 14 RL Z) (hNc : gNc s) (hL : L ≤ 260) (hX : va_X b L xs s s.heap) (hbl : b < s.heap.size) (hbA : ¬ zA Z b) (hdr : ∀ x, D x = drw L xs x) (hend : ∀ (k : Nat) (M : gM) (lv : List (Nat × Value)), k ≤ 33146 → gV p l e room_1 s m #[Value.ref b] below meth c 14 Z Q k M 930 lv [.int 1]) {self138 : gM → Int32 → Int32 → Int32 → gR} {kk : Nat} (hk : kk + 609 ≤ 32814) (hs138 : ∀ (M : gM) (a3 : Int32) (a4 : Int32) (a5 : Int32), gY p l e room_1 s m #[Value.ref b] below meth c 14 Z (fun _ => Q) (kk + 609) M 138 [(0, .ref b), (1, .ref (zad Z 0)), (2, .ref (zad Z 146)), (3, .int a3), (4, .int a4), (5, .int a5)] [] (self138 M a3 a4 a5)) (M : gM) (a3 : Int32) (a5 : Int32) (a6 : Int32) (a7 : Int32) (t1 : Int32) : gY p l e room_1 s m #[Value.ref b] below meth c 14 Z (fun _ => Q) kk M 475 [(0, .ref b), (1, .ref (zad Z 0)), (2, .ref (zad Z 146)), (3, .int a3), (5, .int a5), (6, .int a6), (7, .int a7)] [.int t1, .ref (zad Z 0)] (f_L_law_b475 D self138 M a3 a5 a6 a7 t1) := by
  unfold f_L_law_b475
  refine h_iload hC 5 dL_law_475 rfl ?_
  refine h_bipush hC (v := 96) dL_law_477 (by decide) ?_
  refine h_idiv hC dL_law_479 ?_
  refine h_iconst hC (v := 5) dL_law_480 (by decide) ?_
  refine h_irem hC dL_law_481 ?_
  refine h_iload hC 6 dL_law_482 rfl ?_
  refine h_sipush hC (v := 256) dL_law_484 (by decide) ?_
  refine h_idiv hC dL_law_487 ?_
  refine h_callB (n := 4) hC [.ref (zad Z 0), .int t1, .int ((a6 / 96) - (a6 / 96) / 5 * 5), .int (a7 / 256)] hNc (c_L_about hfl Z M t1 ((a6 / 96) - (a6 / 96) / 5 * 5) (a7 / 256)) lk_L_323 mw_L_about.1 mw_L_about.2.1 mw_L_about.2.2 ⟨by decide, by decide, by decide +kernel⟩ rfl rfl ⟨by decide, by decide⟩ rfl rfl (Nat.le_of_ble_eq_true rfl) (show kk + 13 ≤ 600104 from by omega) (show 6 * (kk + 13) ≤ 7301313 from by omega) dL_law_488 (fun x2 M1 => ?_)
  refine h_if_eq (tgt := 498) hC dL_law_491 (by decide) (fun _ => ?_) (fun _ => ?_)
  · refine h_iconst hC (v := 0) dL_law_498 (by decide) ?_
    exact g_L_law_b499 hfl hC hNc hL hX hbl hbA hdr hend hk hs138 M1 a3 a5 a6 a7 0
  · exact g_L_law_b494 hfl hC hNc hL hX hbl hbA hdr hend hk hs138 M1 a3 a5 a6 a7
set_option maxRecDepth 20000 in
set_option maxHeartbeats 4000000 in
theorem g_L_law_b470 {p : Program} {l : Launch} {e : Env} {s : State} {m : MethodId} {below : List Frame} {meth : Method} {c : Code} {Z : gZ} {Q : State → Prop} {b L : Nat} {xs : Nat → Int32} {D : Int32 → Int32} (hfl : l.stackTraces = false) (hC : gD p s m #[Value.ref b] c cL_law 14 RL Z) (hNc : gNc s) (hL : L ≤ 260) (hX : va_X b L xs s s.heap) (hbl : b < s.heap.size) (hbA : ¬ zA Z b) (hdr : ∀ x, D x = drw L xs x) (hend : ∀ (k : Nat) (M : gM) (lv : List (Nat × Value)), k ≤ 33146 → gV p l e room_1 s m #[Value.ref b] below meth c 14 Z Q k M 930 lv [.int 1]) {self138 : gM → Int32 → Int32 → Int32 → gR} {kk : Nat} (hk : kk + 609 ≤ 32814) (hs138 : ∀ (M : gM) (a3 : Int32) (a4 : Int32) (a5 : Int32), gY p l e room_1 s m #[Value.ref b] below meth c 14 Z (fun _ => Q) (kk + 609) M 138 [(0, .ref b), (1, .ref (zad Z 0)), (2, .ref (zad Z 146)), (3, .int a3), (4, .int a4), (5, .int a5)] [] (self138 M a3 a4 a5)) (M : gM) (a3 : Int32) (a5 : Int32) (a6 : Int32) (a7 : Int32) (a9 : Int32) : gY p l e room_1 s m #[Value.ref b] below meth c 14 Z (fun _ => Q) kk M 470 [(0, .ref b), (1, .ref (zad Z 0)), (2, .ref (zad Z 146)), (3, .int a3), (5, .int a5), (6, .int a6), (7, .int a7), (9, .int a9)] [.ref (zad Z 0)] (f_L_law_b470 D self138 M a3 a5 a6 a7 a9) := by
  unfold f_L_law_b470
  refine h_iload hC 6 dL_law_470 rfl ?_
  refine h_iload hC 7 dL_law_472 rfl ?_
  refine h_irem hC dL_law_474 ?_
  refine h_sub (lv1 := [(0, .ref b), (1, .ref (zad Z 0)), (2, .ref (zad Z 146)), (3, .int a3), (5, .int a5), (6, .int a6), (7, .int a7)]) [0, 1, 2, 3, 4, 5, 6] rfl ?_
  exact g_L_law_b475 hfl hC hNc hL hX hbl hbA hdr hend hk hs138 M a3 a5 a6 a7 (a7 - a7 / a9 * a9)
set_option maxRecDepth 20000 in
set_option maxHeartbeats 4000000 in
theorem g_L_law_b589 {p : Program} {l : Launch} {e : Env} {s : State} {m : MethodId} {below : List Frame} {meth : Method} {c : Code} {Z : gZ} {Q : State → Prop} {b L : Nat} {xs : Nat → Int32} {D : Int32 → Int32} (hfl : l.stackTraces = false) (hC : gD p s m #[Value.ref b] c cL_law 14 RL Z) (hNc : gNc s) (hL : L ≤ 260) (hX : va_X b L xs s s.heap) (hbl : b < s.heap.size) (hbA : ¬ zA Z b) (hdr : ∀ x, D x = drw L xs x) (hend : ∀ (k : Nat) (M : gM) (lv : List (Nat × Value)), k ≤ 33146 → gV p l e room_1 s m #[Value.ref b] below meth c 14 Z Q k M 930 lv [.int 1]) {self138 : gM → Int32 → Int32 → Int32 → gR} {kk : Nat} (hk : kk + 609 ≤ 32814) (hs138 : ∀ (M : gM) (a3 : Int32) (a4 : Int32) (a5 : Int32), gY p l e room_1 s m #[Value.ref b] below meth c 14 Z (fun _ => Q) (kk + 609) M 138 [(0, .ref b), (1, .ref (zad Z 0)), (2, .ref (zad Z 146)), (3, .int a3), (4, .int a4), (5, .int a5)] [] (self138 M a3 a4 a5)) (M : gM) (a3 : Int32) (a5 : Int32) (a6 : Int32) (a7 : Int32) (t0 : Int32) : gY p l e room_1 s m #[Value.ref b] below meth c 14 Z (fun _ => Q) (kk + 4) M 589 [(0, .ref b), (1, .ref (zad Z 0)), (2, .ref (zad Z 146)), (3, .int a3), (5, .int a5), (6, .int a6), (7, .int a7)] [.int t0] (f_L_law_b589 D self138 M a3 a5 a6 a7 t0) := by
  unfold f_L_law_b589
  refine h_istore hC (lv1 := [(4, .int t0), (0, .ref b), (1, .ref (zad Z 0)), (2, .ref (zad Z 146)), (3, .int a3), (5, .int a5), (6, .int a6), (7, .int a7)]) dL_law_589 (by decide) rfl ?_
  refine h_goto (tgt := 837) hC dL_law_591 (by decide) ?_
  refine h_sub (lv1 := [(0, .ref b), (1, .ref (zad Z 0)), (2, .ref (zad Z 146)), (3, .int a3), (4, .int t0), (5, .int a5), (6, .int a6), (7, .int a7)]) [1, 2, 3, 4, 0, 5, 6, 7] rfl ?_
  refine h_widen (k1 := (kk + 13)) (by omega) ?_
  exact g_L_law_b837 hfl hC hNc hL hX hbl hbA hdr hend hk hs138 M a3 t0 a5 a6 a7
set_option maxRecDepth 20000 in
set_option maxHeartbeats 4000000 in
theorem g_L_law_b584 {p : Program} {l : Launch} {e : Env} {s : State} {m : MethodId} {below : List Frame} {meth : Method} {c : Code} {Z : gZ} {Q : State → Prop} {b L : Nat} {xs : Nat → Int32} {D : Int32 → Int32} (hfl : l.stackTraces = false) (hC : gD p s m #[Value.ref b] c cL_law 14 RL Z) (hNc : gNc s) (hL : L ≤ 260) (hX : va_X b L xs s s.heap) (hbl : b < s.heap.size) (hbA : ¬ zA Z b) (hdr : ∀ x, D x = drw L xs x) (hend : ∀ (k : Nat) (M : gM) (lv : List (Nat × Value)), k ≤ 33146 → gV p l e room_1 s m #[Value.ref b] below meth c 14 Z Q k M 930 lv [.int 1]) {self138 : gM → Int32 → Int32 → Int32 → gR} {kk : Nat} (hk : kk + 609 ≤ 32814) (hs138 : ∀ (M : gM) (a3 : Int32) (a4 : Int32) (a5 : Int32), gY p l e room_1 s m #[Value.ref b] below meth c 14 Z (fun _ => Q) (kk + 609) M 138 [(0, .ref b), (1, .ref (zad Z 0)), (2, .ref (zad Z 146)), (3, .int a3), (4, .int a4), (5, .int a5)] [] (self138 M a3 a4 a5)) (M : gM) (a3 : Int32) (a5 : Int32) (a6 : Int32) (a7 : Int32) : gY p l e room_1 s m #[Value.ref b] below meth c 14 Z (fun _ => Q) (kk + 4) M 584 [(0, .ref b), (1, .ref (zad Z 0)), (2, .ref (zad Z 146)), (3, .int a3), (5, .int a5), (6, .int a6), (7, .int a7)] [] (f_L_law_b584 D self138 M a3 a5 a6 a7) := by
  unfold f_L_law_b584
  refine h_iconst hC (v := 1) dL_law_584 (by decide) ?_
  refine h_goto (tgt := 589) hC dL_law_585 (by decide) ?_
  exact g_L_law_b589 hfl hC hNc hL hX hbl hbA hdr hend hk hs138 M a3 a5 a6 a7 1
set_option maxRecDepth 20000 in
set_option maxHeartbeats 4000000 in
theorem g_L_law_b588 {p : Program} {l : Launch} {e : Env} {s : State} {m : MethodId} {below : List Frame} {meth : Method} {c : Code} {Z : gZ} {Q : State → Prop} {b L : Nat} {xs : Nat → Int32} {D : Int32 → Int32} (hfl : l.stackTraces = false) (hC : gD p s m #[Value.ref b] c cL_law 14 RL Z) (hNc : gNc s) (hL : L ≤ 260) (hX : va_X b L xs s s.heap) (hbl : b < s.heap.size) (hbA : ¬ zA Z b) (hdr : ∀ x, D x = drw L xs x) (hend : ∀ (k : Nat) (M : gM) (lv : List (Nat × Value)), k ≤ 33146 → gV p l e room_1 s m #[Value.ref b] below meth c 14 Z Q k M 930 lv [.int 1]) {self138 : gM → Int32 → Int32 → Int32 → gR} {kk : Nat} (hk : kk + 609 ≤ 32814) (hs138 : ∀ (M : gM) (a3 : Int32) (a4 : Int32) (a5 : Int32), gY p l e room_1 s m #[Value.ref b] below meth c 14 Z (fun _ => Q) (kk + 609) M 138 [(0, .ref b), (1, .ref (zad Z 0)), (2, .ref (zad Z 146)), (3, .int a3), (4, .int a4), (5, .int a5)] [] (self138 M a3 a4 a5)) (M : gM) (a3 : Int32) (a5 : Int32) (a6 : Int32) (a7 : Int32) : gY p l e room_1 s m #[Value.ref b] below meth c 14 Z (fun _ => Q) (kk + 4) M 588 [(0, .ref b), (1, .ref (zad Z 0)), (2, .ref (zad Z 146)), (3, .int a3), (5, .int a5), (6, .int a6), (7, .int a7)] [] (f_L_law_b588 D self138 M a3 a5 a6 a7) := by
  unfold f_L_law_b588
  refine h_iconst hC (v := 0) dL_law_588 (by decide) ?_
  exact g_L_law_b589 hfl hC hNc hL hX hbl hbA hdr hend hk hs138 M a3 a5 a6 a7 0
set_option maxRecDepth 20000 in
set_option maxHeartbeats 4000000 in
theorem g_L_law_b574 {p : Program} {l : Launch} {e : Env} {s : State} {m : MethodId} {below : List Frame} {meth : Method} {c : Code} {Z : gZ} {Q : State → Prop} {b L : Nat} {xs : Nat → Int32} {D : Int32 → Int32} (hfl : l.stackTraces = false) (hC : gD p s m #[Value.ref b] c cL_law 14 RL Z) (hNc : gNc s) (hL : L ≤ 260) (hX : va_X b L xs s s.heap) (hbl : b < s.heap.size) (hbA : ¬ zA Z b) (hdr : ∀ x, D x = drw L xs x) (hend : ∀ (k : Nat) (M : gM) (lv : List (Nat × Value)), k ≤ 33146 → gV p l e room_1 s m #[Value.ref b] below meth c 14 Z Q k M 930 lv [.int 1]) {self138 : gM → Int32 → Int32 → Int32 → gR} {kk : Nat} (hk : kk + 609 ≤ 32814) (hs138 : ∀ (M : gM) (a3 : Int32) (a4 : Int32) (a5 : Int32), gY p l e room_1 s m #[Value.ref b] below meth c 14 Z (fun _ => Q) (kk + 609) M 138 [(0, .ref b), (1, .ref (zad Z 0)), (2, .ref (zad Z 146)), (3, .int a3), (4, .int a4), (5, .int a5)] [] (self138 M a3 a4 a5)) (M : gM) (a3 : Int32) (a5 : Int32) (a6 : Int32) (a7 : Int32) (t1 : Int32) (t2 : Int32) : gY p l e room_1 s m #[Value.ref b] below meth c 14 Z (fun _ => Q) (kk + 2) M 574 [(0, .ref b), (1, .ref (zad Z 0)), (2, .ref (zad Z 146)), (3, .int a3), (5, .int a5), (6, .int a6), (7, .int a7)] [.int t2, .int t1, .ref (zad Z 0)] (f_L_law_b574 D self138 M a3 a5 a6 a7 t1 t2) := by
  unfold f_L_law_b574
  refine h_callW (n := 3) hC [.ref (zad Z 0), .int t1, .int t2] hNc (c_L_stay hfl Z M t1 t2) lk_L_266 mw_L_stay.1 mw_L_stay.2.1 mw_L_stay.2.2 ⟨by decide, by decide, by decide +kernel⟩ rfl rfl ⟨by decide, by decide⟩ rfl rfl (Nat.le_of_ble_eq_true rfl) (show (kk + 2) + 2 ≤ 600104 from by omega) (show 6 * ((kk + 2) + 2) ≤ 7301313 from by omega) dL_law_574 (fun x2 M1 => ?_)
  refine h_ldc2 hC (v := (-9000000000000000003)) lc_L_21 dL_law_577 ?_
  refine h_lcmp_ne (tgt := 588) hC dL_law_580 dL_law_581 (by decide) (fun _ => ?_) (fun _ => ?_)
  · exact g_L_law_b584 hfl hC hNc hL hX hbl hbA hdr hend hk hs138 M1 a3 a5 a6 a7
  · exact g_L_law_b588 hfl hC hNc hL hX hbl hbA hdr hend hk hs138 M1 a3 a5 a6 a7
set_option maxRecDepth 20000 in
set_option maxHeartbeats 4000000 in
theorem g_L_law_b531 {p : Program} {l : Launch} {e : Env} {s : State} {m : MethodId} {below : List Frame} {meth : Method} {c : Code} {Z : gZ} {Q : State → Prop} {b L : Nat} {xs : Nat → Int32} {D : Int32 → Int32} (hfl : l.stackTraces = false) (hC : gD p s m #[Value.ref b] c cL_law 14 RL Z) (hNc : gNc s) (hL : L ≤ 260) (hX : va_X b L xs s s.heap) (hbl : b < s.heap.size) (hbA : ¬ zA Z b) (hdr : ∀ x, D x = drw L xs x) (hend : ∀ (k : Nat) (M : gM) (lv : List (Nat × Value)), k ≤ 33146 → gV p l e room_1 s m #[Value.ref b] below meth c 14 Z Q k M 930 lv [.int 1]) {self138 : gM → Int32 → Int32 → Int32 → gR} {kk : Nat} (hk : kk + 609 ≤ 32814) (hs138 : ∀ (M : gM) (a3 : Int32) (a4 : Int32) (a5 : Int32), gY p l e room_1 s m #[Value.ref b] below meth c 14 Z (fun _ => Q) (kk + 609) M 138 [(0, .ref b), (1, .ref (zad Z 0)), (2, .ref (zad Z 146)), (3, .int a3), (4, .int a4), (5, .int a5)] [] (self138 M a3 a4 a5)) (M : gM) (a3 : Int32) (a5 : Int32) (a6 : Int32) (a7 : Int32) (a9 : Int32) (t1 : Int32) (t2 : Int32) : gY p l e room_1 s m #[Value.ref b] below meth c 14 Z (fun _ => Q) kk M 531 [(0, .ref b), (1, .ref (zad Z 0)), (2, .ref (zad Z 146)), (3, .int a3), (5, .int a5), (6, .int a6), (7, .int a7), (9, .int a9)] [.int t2, .int t1, .ref (zad Z 0)] (f_L_law_b531 D self138 M a3 a5 a6 a7 a9 t1 t2) := by
  unfold f_L_law_b531
  refine h_callW (n := 3) hC [.ref (zad Z 0), .int t1, .int t2] hNc (c_L_stay hfl Z M t1 t2) lk_L_266 mw_L_stay.1 mw_L_stay.2.1 mw_L_stay.2.2 ⟨by decide, by decide, by decide +kernel⟩ rfl rfl ⟨by decide, by decide⟩ rfl rfl (Nat.le_of_ble_eq_true rfl) (show kk + 2 ≤ 600104 from by omega) (show 6 * (kk + 2) ≤ 7301313 from by omega) dL_law_531 (fun x2 M1 => ?_)
  refine h_lstore hC (lv1 := [(10, .long x2), (0, .ref b), (1, .ref (zad Z 0)), (2, .ref (zad Z 146)), (3, .int a3), (5, .int a5), (6, .int a6), (7, .int a7), (9, .int a9)]) dL_law_534 (by decide) rfl ?_
  refine h_lload hC 0 dL_law_536 rfl ?_
  refine h_ldc2 hC (v := (-9000000000000000003)) lc_L_21 dL_law_538 ?_
  refine h_lcmp_eq (tgt := 584) hC dL_law_541 dL_law_542 (by decide) (fun _ => ?_) (fun _ => ?_)
  · refine h_sub (lv1 := [(0, .ref b), (1, .ref (zad Z 0)), (2, .ref (zad Z 146)), (3, .int a3), (5, .int a5), (6, .int a6), (7, .int a7)]) [1, 2, 3, 4, 5, 6, 7] rfl ?_
    refine h_widen (k1 := (kk + 4)) (by omega) ?_
    exact g_L_law_b584 hfl hC hNc hL hX hbl hbA hdr hend hk hs138 M1 a3 a5 a6 a7
  · refine h_lload hC 0 dL_law_545 rfl ?_
    refine h_iload hC 8 dL_law_547 rfl ?_
    refine h_i2l hC dL_law_549 ?_
    refine h_lcmp_ne (tgt := 588) hC dL_law_550 dL_law_551 (by decide) (fun _ => ?_) (fun _ => ?_)
    · refine h_aload_n hC 2 dL_law_554 rfl rfl ?_
      refine h_iload hC 6 dL_law_555 rfl ?_
      refine h_bipush hC (v := 16) dL_law_557 (by decide) ?_
      refine h_idiv hC dL_law_559 ?_
      refine h_iconst hC (v := 2) dL_law_560 (by decide) ?_
      refine h_irem hC dL_law_561 ?_
      refine h_iload hC 7 dL_law_562 rfl ?_
      refine h_iconst hC (v := 2) dL_law_564 (by decide) ?_
      refine h_irem hC dL_law_565 ?_
      refine h_if_ne (tgt := 573) hC dL_law_566 (by decide) (fun _ => ?_) (fun _ => ?_)
      · refine h_iconst hC (v := 1) dL_law_569 (by decide) ?_
        refine h_goto (tgt := 574) hC dL_law_570 (by decide) ?_
        refine h_sub (lv1 := [(0, .ref b), (1, .ref (zad Z 0)), (2, .ref (zad Z 146)), (3, .int a3), (5, .int a5), (6, .int a6), (7, .int a7)]) [1, 2, 3, 4, 5, 6, 7] rfl ?_
        exact g_L_law_b574 hfl hC hNc hL hX hbl hbA hdr hend hk hs138 M1 a3 a5 a6 a7 ((a6 / 16) - (a6 / 16) / 2 * 2) 1
      · refine h_iconst hC (v := 0) dL_law_573 (by decide) ?_
        refine h_sub (lv1 := [(0, .ref b), (1, .ref (zad Z 0)), (2, .ref (zad Z 146)), (3, .int a3), (5, .int a5), (6, .int a6), (7, .int a7)]) [1, 2, 3, 4, 5, 6, 7] rfl ?_
        exact g_L_law_b574 hfl hC hNc hL hX hbl hbA hdr hend hk hs138 M1 a3 a5 a6 a7 ((a6 / 16) - (a6 / 16) / 2 * 2) 0
    · refine h_sub (lv1 := [(0, .ref b), (1, .ref (zad Z 0)), (2, .ref (zad Z 146)), (3, .int a3), (5, .int a5), (6, .int a6), (7, .int a7)]) [1, 2, 3, 4, 5, 6, 7] rfl ?_
      refine h_widen (k1 := (kk + 4)) (by omega) ?_
      exact g_L_law_b588 hfl hC hNc hL hX hbl hbA hdr hend hk hs138 M1 a3 a5 a6 a7
set_option maxRecDepth 20000 in
set_option maxHeartbeats 4000000 in
theorem g_L_law_b757 {p : Program} {l : Launch} {e : Env} {s : State} {m : MethodId} {below : List Frame} {meth : Method} {c : Code} {Z : gZ} {Q : State → Prop} {b L : Nat} {xs : Nat → Int32} {D : Int32 → Int32} (hfl : l.stackTraces = false) (hC : gD p s m #[Value.ref b] c cL_law 14 RL Z) (hNc : gNc s) (hL : L ≤ 260) (hX : va_X b L xs s s.heap) (hbl : b < s.heap.size) (hbA : ¬ zA Z b) (hdr : ∀ x, D x = drw L xs x) (hend : ∀ (k : Nat) (M : gM) (lv : List (Nat × Value)), k ≤ 33146 → gV p l e room_1 s m #[Value.ref b] below meth c 14 Z Q k M 930 lv [.int 1]) {self138 : gM → Int32 → Int32 → Int32 → gR} {kk : Nat} (hk : kk + 609 ≤ 32814) (hs138 : ∀ (M : gM) (a3 : Int32) (a4 : Int32) (a5 : Int32), gY p l e room_1 s m #[Value.ref b] below meth c 14 Z (fun _ => Q) (kk + 609) M 138 [(0, .ref b), (1, .ref (zad Z 0)), (2, .ref (zad Z 146)), (3, .int a3), (4, .int a4), (5, .int a5)] [] (self138 M a3 a4 a5)) (M : gM) (a3 : Int32) (a5 : Int32) (a6 : Int32) (a7 : Int32) (t0 : Int32) : gY p l e room_1 s m #[Value.ref b] below meth c 14 Z (fun _ => Q) (kk + 7) M 757 [(0, .ref b), (1, .ref (zad Z 0)), (2, .ref (zad Z 146)), (3, .int a3), (5, .int a5), (6, .int a6), (7, .int a7)] [.int t0] (f_L_law_b757 D self138 M a3 a5 a6 a7 t0) := by
  unfold f_L_law_b757
  refine h_istore hC (lv1 := [(4, .int t0), (0, .ref b), (1, .ref (zad Z 0)), (2, .ref (zad Z 146)), (3, .int a3), (5, .int a5), (6, .int a6), (7, .int a7)]) dL_law_757 (by decide) rfl ?_
  refine h_goto (tgt := 837) hC dL_law_759 (by decide) ?_
  refine h_sub (lv1 := [(0, .ref b), (1, .ref (zad Z 0)), (2, .ref (zad Z 146)), (3, .int a3), (4, .int t0), (5, .int a5), (6, .int a6), (7, .int a7)]) [1, 2, 3, 4, 0, 5, 6, 7] rfl ?_
  refine h_widen (k1 := (kk + 13)) (by omega) ?_
  exact g_L_law_b837 hfl hC hNc hL hX hbl hbA hdr hend hk hs138 M a3 t0 a5 a6 a7
set_option maxRecDepth 20000 in
set_option maxHeartbeats 4000000 in
theorem g_L_law_b752 {p : Program} {l : Launch} {e : Env} {s : State} {m : MethodId} {below : List Frame} {meth : Method} {c : Code} {Z : gZ} {Q : State → Prop} {b L : Nat} {xs : Nat → Int32} {D : Int32 → Int32} (hfl : l.stackTraces = false) (hC : gD p s m #[Value.ref b] c cL_law 14 RL Z) (hNc : gNc s) (hL : L ≤ 260) (hX : va_X b L xs s s.heap) (hbl : b < s.heap.size) (hbA : ¬ zA Z b) (hdr : ∀ x, D x = drw L xs x) (hend : ∀ (k : Nat) (M : gM) (lv : List (Nat × Value)), k ≤ 33146 → gV p l e room_1 s m #[Value.ref b] below meth c 14 Z Q k M 930 lv [.int 1]) {self138 : gM → Int32 → Int32 → Int32 → gR} {kk : Nat} (hk : kk + 609 ≤ 32814) (hs138 : ∀ (M : gM) (a3 : Int32) (a4 : Int32) (a5 : Int32), gY p l e room_1 s m #[Value.ref b] below meth c 14 Z (fun _ => Q) (kk + 609) M 138 [(0, .ref b), (1, .ref (zad Z 0)), (2, .ref (zad Z 146)), (3, .int a3), (4, .int a4), (5, .int a5)] [] (self138 M a3 a4 a5)) (M : gM) (a3 : Int32) (a5 : Int32) (a6 : Int32) (a7 : Int32) : gY p l e room_1 s m #[Value.ref b] below meth c 14 Z (fun _ => Q) (kk + 7) M 752 [(0, .ref b), (1, .ref (zad Z 0)), (2, .ref (zad Z 146)), (3, .int a3), (5, .int a5), (6, .int a6), (7, .int a7)] [] (f_L_law_b752 D self138 M a3 a5 a6 a7) := by
  unfold f_L_law_b752
  refine h_iconst hC (v := 1) dL_law_752 (by decide) ?_
  refine h_goto (tgt := 757) hC dL_law_753 (by decide) ?_
  exact g_L_law_b757 hfl hC hNc hL hX hbl hbA hdr hend hk hs138 M a3 a5 a6 a7 1
set_option maxRecDepth 20000 in
set_option maxHeartbeats 4000000 in
theorem g_L_law_b756 {p : Program} {l : Launch} {e : Env} {s : State} {m : MethodId} {below : List Frame} {meth : Method} {c : Code} {Z : gZ} {Q : State → Prop} {b L : Nat} {xs : Nat → Int32} {D : Int32 → Int32} (hfl : l.stackTraces = false) (hC : gD p s m #[Value.ref b] c cL_law 14 RL Z) (hNc : gNc s) (hL : L ≤ 260) (hX : va_X b L xs s s.heap) (hbl : b < s.heap.size) (hbA : ¬ zA Z b) (hdr : ∀ x, D x = drw L xs x) (hend : ∀ (k : Nat) (M : gM) (lv : List (Nat × Value)), k ≤ 33146 → gV p l e room_1 s m #[Value.ref b] below meth c 14 Z Q k M 930 lv [.int 1]) {self138 : gM → Int32 → Int32 → Int32 → gR} {kk : Nat} (hk : kk + 609 ≤ 32814) (hs138 : ∀ (M : gM) (a3 : Int32) (a4 : Int32) (a5 : Int32), gY p l e room_1 s m #[Value.ref b] below meth c 14 Z (fun _ => Q) (kk + 609) M 138 [(0, .ref b), (1, .ref (zad Z 0)), (2, .ref (zad Z 146)), (3, .int a3), (4, .int a4), (5, .int a5)] [] (self138 M a3 a4 a5)) (M : gM) (a3 : Int32) (a5 : Int32) (a6 : Int32) (a7 : Int32) : gY p l e room_1 s m #[Value.ref b] below meth c 14 Z (fun _ => Q) (kk + 7) M 756 [(0, .ref b), (1, .ref (zad Z 0)), (2, .ref (zad Z 146)), (3, .int a3), (5, .int a5), (6, .int a6), (7, .int a7)] [] (f_L_law_b756 D self138 M a3 a5 a6 a7) := by
  unfold f_L_law_b756
  refine h_iconst hC (v := 0) dL_law_756 (by decide) ?_
  exact g_L_law_b757 hfl hC hNc hL hX hbl hbA hdr hend hk hs138 M a3 a5 a6 a7 0
set_option maxRecDepth 20000 in
set_option maxHeartbeats 4000000 in
theorem g_L_law_b744 {p : Program} {l : Launch} {e : Env} {s : State} {m : MethodId} {below : List Frame} {meth : Method} {c : Code} {Z : gZ} {Q : State → Prop} {b L : Nat} {xs : Nat → Int32} {D : Int32 → Int32} (hfl : l.stackTraces = false) (hC : gD p s m #[Value.ref b] c cL_law 14 RL Z) (hNc : gNc s) (hL : L ≤ 260) (hX : va_X b L xs s s.heap) (hbl : b < s.heap.size) (hbA : ¬ zA Z b) (hdr : ∀ x, D x = drw L xs x) (hend : ∀ (k : Nat) (M : gM) (lv : List (Nat × Value)), k ≤ 33146 → gV p l e room_1 s m #[Value.ref b] below meth c 14 Z Q k M 930 lv [.int 1]) {self138 : gM → Int32 → Int32 → Int32 → gR} {kk : Nat} (hk : kk + 609 ≤ 32814) (hs138 : ∀ (M : gM) (a3 : Int32) (a4 : Int32) (a5 : Int32), gY p l e room_1 s m #[Value.ref b] below meth c 14 Z (fun _ => Q) (kk + 609) M 138 [(0, .ref b), (1, .ref (zad Z 0)), (2, .ref (zad Z 146)), (3, .int a3), (4, .int a4), (5, .int a5)] [] (self138 M a3 a4 a5)) (M : gM) (a3 : Int32) (a5 : Int32) (a6 : Int32) (a7 : Int32) (t1 : Int32) (t2 : Int32) (t3 : Int32) : gY p l e room_1 s m #[Value.ref b] below meth c 14 Z (fun _ => Q) (kk + 6) M 744 [(0, .ref b), (1, .ref (zad Z 0)), (2, .ref (zad Z 146)), (3, .int a3), (5, .int a5), (6, .int a6), (7, .int a7)] [.int t3, .int t2, .int t1, .ref (zad Z 0)] (f_L_law_b744 D self138 M a3 a5 a6 a7 t1 t2 t3) := by
  unfold f_L_law_b744
  refine h_callW (n := 4) hC [.ref (zad Z 0), .int t1, .int t2, .int t3] hNc (c_L_setRule hfl Z M t1 t2 t3) lk_L_230 mw_L_setRule.1 mw_L_setRule.2.1 mw_L_setRule.2.2 ⟨by decide, by decide, by decide +kernel⟩ rfl rfl ⟨by decide, by decide⟩ rfl rfl (Nat.le_of_ble_eq_true rfl) (show (kk + 6) + 1 ≤ 600104 from by omega) (show 6 * ((kk + 6) + 1) ≤ 7301313 from by omega) dL_law_744 (fun x2 M1 => ?_)
  refine h_lconst hC (v := 1) dL_law_747 (by decide) ?_
  refine h_lcmp_lt (tgt := 756) hC dL_law_748 dL_law_749 (by decide) (fun _ => ?_) (fun _ => ?_)
  · exact g_L_law_b756 hfl hC hNc hL hX hbl hbA hdr hend hk hs138 M1 a3 a5 a6 a7
  · exact g_L_law_b752 hfl hC hNc hL hX hbl hbA hdr hend hk hs138 M1 a3 a5 a6 a7
set_option maxRecDepth 20000 in
set_option maxHeartbeats 4000000 in
theorem g_L_law_b701 {p : Program} {l : Launch} {e : Env} {s : State} {m : MethodId} {below : List Frame} {meth : Method} {c : Code} {Z : gZ} {Q : State → Prop} {b L : Nat} {xs : Nat → Int32} {D : Int32 → Int32} (hfl : l.stackTraces = false) (hC : gD p s m #[Value.ref b] c cL_law 14 RL Z) (hNc : gNc s) (hL : L ≤ 260) (hX : va_X b L xs s s.heap) (hbl : b < s.heap.size) (hbA : ¬ zA Z b) (hdr : ∀ x, D x = drw L xs x) (hend : ∀ (k : Nat) (M : gM) (lv : List (Nat × Value)), k ≤ 33146 → gV p l e room_1 s m #[Value.ref b] below meth c 14 Z Q k M 930 lv [.int 1]) {self138 : gM → Int32 → Int32 → Int32 → gR} {kk : Nat} (hk : kk + 609 ≤ 32814) (hs138 : ∀ (M : gM) (a3 : Int32) (a4 : Int32) (a5 : Int32), gY p l e room_1 s m #[Value.ref b] below meth c 14 Z (fun _ => Q) (kk + 609) M 138 [(0, .ref b), (1, .ref (zad Z 0)), (2, .ref (zad Z 146)), (3, .int a3), (4, .int a4), (5, .int a5)] [] (self138 M a3 a4 a5)) (M : gM) (a3 : Int32) (a5 : Int32) (a6 : Int32) (a7 : Int32) : gY p l e room_1 s m #[Value.ref b] below meth c 14 Z (fun _ => Q) (kk + 6) M 701 [(0, .ref b), (1, .ref (zad Z 0)), (2, .ref (zad Z 146)), (3, .int a3), (5, .int a5), (6, .int a6), (7, .int a7)] [] (f_L_law_b701 D self138 M a3 a5 a6 a7) := by
  unfold f_L_law_b701
  refine h_iload hC 6 dL_law_701 rfl ?_
  refine h_sipush hC (v := 1024) dL_law_703 (by decide) ?_
  refine h_idiv hC dL_law_706 ?_
  refine h_iconst hC (v := 4) dL_law_707 (by decide) ?_
  refine h_irem hC dL_law_708 ?_
  refine h_if_gt (tgt := 752) hC dL_law_709 (by decide) (fun _ => ?_) (fun _ => ?_)
  · refine h_widen (k1 := (kk + 7)) (by omega) ?_
    exact g_L_law_b752 hfl hC hNc hL hX hbl hbA hdr hend hk hs138 M a3 a5 a6 a7
  · refine h_aload_n hC 1 dL_law_712 rfl rfl ?_
    refine h_iload hC 6 dL_law_713 rfl ?_
    refine h_sipush hC (v := 4096) dL_law_715 (by decide) ?_
    refine h_idiv hC dL_law_718 ?_
    refine h_iconst hC (v := 5) dL_law_719 (by decide) ?_
    refine h_irem hC dL_law_720 ?_
    refine h_iconst hC (v := 1) dL_law_721 (by decide) ?_
    refine h_iload hC 6 dL_law_722 rfl ?_
    refine h_ldcw hC (v := 32768) (gIn (by decide +kernel) rfl) dL_law_724 ?_
    refine h_idiv hC dL_law_727 ?_
    refine h_bipush hC (v := 30) dL_law_728 (by decide) ?_
    refine h_irem hC dL_law_730 ?_
    refine h_iadd hC dL_law_731 ?_
    refine h_iload hC 6 dL_law_732 rfl ?_
    refine h_iconst hC (v := 2) dL_law_734 (by decide) ?_
    refine h_irem hC dL_law_735 ?_
    refine h_if_ne (tgt := 743) hC dL_law_736 (by decide) (fun _ => ?_) (fun _ => ?_)
    · refine h_iconst hC (v := 1) dL_law_739 (by decide) ?_
      refine h_goto (tgt := 744) hC dL_law_740 (by decide) ?_
      exact g_L_law_b744 hfl hC hNc hL hX hbl hbA hdr hend hk hs138 M a3 a5 a6 a7 ((a7 / 4096) - (a7 / 4096) / 5 * 5) (1 + ((a7 / 32768) - (a7 / 32768) / 30 * 30)) 1
    · refine h_iconst hC (v := 0) dL_law_743 (by decide) ?_
      exact g_L_law_b744 hfl hC hNc hL hX hbl hbA hdr hend hk hs138 M a3 a5 a6 a7 ((a7 / 4096) - (a7 / 4096) / 5 * 5) (1 + ((a7 / 32768) - (a7 / 32768) / 30 * 30)) 0
set_option maxRecDepth 20000 in
set_option maxHeartbeats 4000000 in
theorem g_L_law_b672 {p : Program} {l : Launch} {e : Env} {s : State} {m : MethodId} {below : List Frame} {meth : Method} {c : Code} {Z : gZ} {Q : State → Prop} {b L : Nat} {xs : Nat → Int32} {D : Int32 → Int32} (hfl : l.stackTraces = false) (hC : gD p s m #[Value.ref b] c cL_law 14 RL Z) (hNc : gNc s) (hL : L ≤ 260) (hX : va_X b L xs s s.heap) (hbl : b < s.heap.size) (hbA : ¬ zA Z b) (hdr : ∀ x, D x = drw L xs x) (hend : ∀ (k : Nat) (M : gM) (lv : List (Nat × Value)), k ≤ 33146 → gV p l e room_1 s m #[Value.ref b] below meth c 14 Z Q k M 930 lv [.int 1]) {self138 : gM → Int32 → Int32 → Int32 → gR} {kk : Nat} (hk : kk + 609 ≤ 32814) (hs138 : ∀ (M : gM) (a3 : Int32) (a4 : Int32) (a5 : Int32), gY p l e room_1 s m #[Value.ref b] below meth c 14 Z (fun _ => Q) (kk + 609) M 138 [(0, .ref b), (1, .ref (zad Z 0)), (2, .ref (zad Z 146)), (3, .int a3), (4, .int a4), (5, .int a5)] [] (self138 M a3 a4 a5)) (M : gM) (a3 : Int32) (a5 : Int32) (a6 : Int32) (a7 : Int32) (a10 : Int64) (a12 : Int64) (t0 : Int32) (t1 : Int32) : gY p l e room_1 s m #[Value.ref b] below meth c 14 Z (fun _ => Q) (kk + 6) M 672 [(0, .ref b), (1, .ref (zad Z 0)), (2, .ref (zad Z 146)), (3, .int a3), (5, .int a5), (6, .int a6), (7, .int a7), (10, .long a10), (12, .long a12)] [.int t1, .int t0] (f_L_law_b672 D self138 M a3 a5 a6 a7 a10 a12 t0 t1) := by
  unfold f_L_law_b672
  refine h_icmp_ne (tgt := 756) hC dL_law_672 (by decide) (fun _ => ?_) (fun _ => ?_)
  · refine h_lload hC 8 dL_law_675 rfl ?_
    refine h_ldc2 hC (v := (-9000000000000000003)) lc_L_21 dL_law_677 ?_
    refine h_lcmp_eq (tgt := 701) hC dL_law_680 dL_law_681 (by decide) (fun _ => ?_) (fun _ => ?_)
    · refine h_sub (lv1 := [(0, .ref b), (1, .ref (zad Z 0)), (2, .ref (zad Z 146)), (3, .int a3), (5, .int a5), (6, .int a6), (7, .int a7)]) [0, 1, 2, 3, 4, 5, 6] rfl ?_
      exact g_L_law_b701 hfl hC hNc hL hX hbl hbA hdr hend hk hs138 M a3 a5 a6 a7
    · refine h_lload hC 8 dL_law_684 rfl ?_
      refine h_ldc2 hC (v := (-1)) lc_L_204 dL_law_686 ?_
      refine h_lcmp_eq (tgt := 701) hC dL_law_689 dL_law_690 (by decide) (fun _ => ?_) (fun _ => ?_)
      · refine h_sub (lv1 := [(0, .ref b), (1, .ref (zad Z 0)), (2, .ref (zad Z 146)), (3, .int a3), (5, .int a5), (6, .int a6), (7, .int a7)]) [0, 1, 2, 3, 4, 5, 6] rfl ?_
        exact g_L_law_b701 hfl hC hNc hL hX hbl hbA hdr hend hk hs138 M a3 a5 a6 a7
      · refine h_lload hC 8 dL_law_693 rfl ?_
        refine h_lload hC 7 dL_law_695 rfl ?_
        refine h_lcmp_lt (tgt := 756) hC dL_law_697 dL_law_698 (by decide) (fun _ => ?_) (fun _ => ?_)
        · refine h_sub (lv1 := [(0, .ref b), (1, .ref (zad Z 0)), (2, .ref (zad Z 146)), (3, .int a3), (5, .int a5), (6, .int a6), (7, .int a7)]) [0, 1, 2, 3, 4, 5, 6] rfl ?_
          refine h_widen (k1 := (kk + 7)) (by omega) ?_
          exact g_L_law_b756 hfl hC hNc hL hX hbl hbA hdr hend hk hs138 M a3 a5 a6 a7
        · refine h_sub (lv1 := [(0, .ref b), (1, .ref (zad Z 0)), (2, .ref (zad Z 146)), (3, .int a3), (5, .int a5), (6, .int a6), (7, .int a7)]) [0, 1, 2, 3, 4, 5, 6] rfl ?_
          exact g_L_law_b701 hfl hC hNc hL hX hbl hbA hdr hend hk hs138 M a3 a5 a6 a7
  · refine h_sub (lv1 := [(0, .ref b), (1, .ref (zad Z 0)), (2, .ref (zad Z 146)), (3, .int a3), (5, .int a5), (6, .int a6), (7, .int a7)]) [0, 1, 2, 3, 4, 5, 6] rfl ?_
    refine h_widen (k1 := (kk + 7)) (by omega) ?_
    exact g_L_law_b756 hfl hC hNc hL hX hbl hbA hdr hend hk hs138 M a3 a5 a6 a7
set_option maxRecDepth 20000 in
set_option maxHeartbeats 4000000 in
theorem g_L_law_b667 {p : Program} {l : Launch} {e : Env} {s : State} {m : MethodId} {below : List Frame} {meth : Method} {c : Code} {Z : gZ} {Q : State → Prop} {b L : Nat} {xs : Nat → Int32} {D : Int32 → Int32} (hfl : l.stackTraces = false) (hC : gD p s m #[Value.ref b] c cL_law 14 RL Z) (hNc : gNc s) (hL : L ≤ 260) (hX : va_X b L xs s s.heap) (hbl : b < s.heap.size) (hbA : ¬ zA Z b) (hdr : ∀ x, D x = drw L xs x) (hend : ∀ (k : Nat) (M : gM) (lv : List (Nat × Value)), k ≤ 33146 → gV p l e room_1 s m #[Value.ref b] below meth c 14 Z Q k M 930 lv [.int 1]) {self138 : gM → Int32 → Int32 → Int32 → gR} {kk : Nat} (hk : kk + 609 ≤ 32814) (hs138 : ∀ (M : gM) (a3 : Int32) (a4 : Int32) (a5 : Int32), gY p l e room_1 s m #[Value.ref b] below meth c 14 Z (fun _ => Q) (kk + 609) M 138 [(0, .ref b), (1, .ref (zad Z 0)), (2, .ref (zad Z 146)), (3, .int a3), (4, .int a4), (5, .int a5)] [] (self138 M a3 a4 a5)) (M : gM) (a3 : Int32) (a5 : Int32) (a6 : Int32) (a7 : Int32) (a10 : Int64) (a12 : Int64) (t0 : Int32) : gY p l e room_1 s m #[Value.ref b] below meth c 14 Z (fun _ => Q) (kk + 6) M 667 [(0, .ref b), (1, .ref (zad Z 0)), (2, .ref (zad Z 146)), (3, .int a3), (5, .int a5), (6, .int a6), (7, .int a7), (10, .long a10), (12, .long a12)] [.int t0] (f_L_law_b667 D self138 M a3 a5 a6 a7 a10 a12 t0) := by
  unfold f_L_law_b667
  refine h_iconst hC (v := 1) dL_law_667 (by decide) ?_
  refine h_goto (tgt := 672) hC dL_law_668 (by decide) ?_
  exact g_L_law_b672 hfl hC hNc hL hX hbl hbA hdr hend hk hs138 M a3 a5 a6 a7 a10 a12 t0 1
set_option maxRecDepth 20000 in
set_option maxHeartbeats 4000000 in
theorem g_L_law_b647 {p : Program} {l : Launch} {e : Env} {s : State} {m : MethodId} {below : List Frame} {meth : Method} {c : Code} {Z : gZ} {Q : State → Prop} {b L : Nat} {xs : Nat → Int32} {D : Int32 → Int32} (hfl : l.stackTraces = false) (hC : gD p s m #[Value.ref b] c cL_law 14 RL Z) (hNc : gNc s) (hL : L ≤ 260) (hX : va_X b L xs s s.heap) (hbl : b < s.heap.size) (hbA : ¬ zA Z b) (hdr : ∀ x, D x = drw L xs x) (hend : ∀ (k : Nat) (M : gM) (lv : List (Nat × Value)), k ≤ 33146 → gV p l e room_1 s m #[Value.ref b] below meth c 14 Z Q k M 930 lv [.int 1]) {self138 : gM → Int32 → Int32 → Int32 → gR} {kk : Nat} (hk : kk + 609 ≤ 32814) (hs138 : ∀ (M : gM) (a3 : Int32) (a4 : Int32) (a5 : Int32), gY p l e room_1 s m #[Value.ref b] below meth c 14 Z (fun _ => Q) (kk + 609) M 138 [(0, .ref b), (1, .ref (zad Z 0)), (2, .ref (zad Z 146)), (3, .int a3), (4, .int a4), (5, .int a5)] [] (self138 M a3 a4 a5)) (M : gM) (a3 : Int32) (a5 : Int32) (a6 : Int32) (a7 : Int32) (a10 : Int64) (a12 : Int64) (t0 : Int32) : gY p l e room_1 s m #[Value.ref b] below meth c 14 Z (fun _ => Q) (kk + 6) M 647 [(0, .ref b), (1, .ref (zad Z 0)), (2, .ref (zad Z 146)), (3, .int a3), (5, .int a5), (6, .int a6), (7, .int a7), (10, .long a10), (12, .long a12)] [.int t0] (f_L_law_b647 D self138 M a3 a5 a6 a7 a10 a12 t0) := by
  unfold f_L_law_b647
  refine h_lload hC 7 dL_law_647 rfl ?_
  refine h_ldc2 hC (v := (-1)) lc_L_204 dL_law_649 ?_
  refine h_lcmp_eq (tgt := 667) hC dL_law_652 dL_law_653 (by decide) (fun _ => ?_) (fun _ => ?_)
  · exact g_L_law_b667 hfl hC hNc hL hX hbl hbA hdr hend hk hs138 M a3 a5 a6 a7 a10 a12 t0
  · refine h_lload hC 7 dL_law_656 rfl ?_
    refine h_aload_n hC 1 dL_law_658 rfl rfl ?_
    refine h_callN (n := 0) hC [] 0 8 (by decide) rfl rfl (c_X8_today hfl Z M ) lk_L_214 mw_X8_today.1 mw_X8_today.2.1 mw_X8_today.2.2.1 mw_X8_today.2.2.2 ⟨rfl, by decide, by decide, by decide +kernel⟩ rfl rfl ⟨by decide, by decide⟩ rfl rfl (Nat.le_of_ble_eq_true rfl) (show (kk + 6) ≤ 600104 from by omega) (show 6 * ((kk + 6)) ≤ 7301313 from by omega) dL_law_659 (fun x2 M1 => ?_)
    refine h_i2l hC dL_law_662 ?_
    refine h_lcmp_ge (tgt := 671) hC dL_law_663 dL_law_664 (by decide) (fun _ => ?_) (fun _ => ?_)
    · refine h_iconst hC (v := 0) dL_law_671 (by decide) ?_
      exact g_L_law_b672 hfl hC hNc hL hX hbl hbA hdr hend hk hs138 M1 a3 a5 a6 a7 a10 a12 t0 0
    · exact g_L_law_b667 hfl hC hNc hL hX hbl hbA hdr hend hk hs138 M1 a3 a5 a6 a7 a10 a12 t0
set_option maxRecDepth 20000 in
set_option maxHeartbeats 4000000 in
theorem g_L_law_b835 {p : Program} {l : Launch} {e : Env} {s : State} {m : MethodId} {below : List Frame} {meth : Method} {c : Code} {Z : gZ} {Q : State → Prop} {b L : Nat} {xs : Nat → Int32} {D : Int32 → Int32} (hfl : l.stackTraces = false) (hC : gD p s m #[Value.ref b] c cL_law 14 RL Z) (hNc : gNc s) (hL : L ≤ 260) (hX : va_X b L xs s s.heap) (hbl : b < s.heap.size) (hbA : ¬ zA Z b) (hdr : ∀ x, D x = drw L xs x) (hend : ∀ (k : Nat) (M : gM) (lv : List (Nat × Value)), k ≤ 33146 → gV p l e room_1 s m #[Value.ref b] below meth c 14 Z Q k M 930 lv [.int 1]) {self138 : gM → Int32 → Int32 → Int32 → gR} {kk : Nat} (hk : kk + 609 ≤ 32814) (hs138 : ∀ (M : gM) (a3 : Int32) (a4 : Int32) (a5 : Int32), gY p l e room_1 s m #[Value.ref b] below meth c 14 Z (fun _ => Q) (kk + 609) M 138 [(0, .ref b), (1, .ref (zad Z 0)), (2, .ref (zad Z 146)), (3, .int a3), (4, .int a4), (5, .int a5)] [] (self138 M a3 a4 a5)) (M : gM) (a3 : Int32) (a5 : Int32) (a6 : Int32) (a7 : Int32) (t0 : Int32) : gY p l e room_1 s m #[Value.ref b] below meth c 14 Z (fun _ => Q) (kk + 3) M 835 [(0, .ref b), (1, .ref (zad Z 0)), (2, .ref (zad Z 146)), (3, .int a3), (5, .int a5), (6, .int a6), (7, .int a7)] [.int t0] (f_L_law_b835 D self138 M a3 a5 a6 a7 t0) := by
  unfold f_L_law_b835
  refine h_istore hC (lv1 := [(4, .int t0), (0, .ref b), (1, .ref (zad Z 0)), (2, .ref (zad Z 146)), (3, .int a3), (5, .int a5), (6, .int a6), (7, .int a7)]) dL_law_835 (by decide) rfl ?_
  refine h_sub (lv1 := [(0, .ref b), (1, .ref (zad Z 0)), (2, .ref (zad Z 146)), (3, .int a3), (4, .int t0), (5, .int a5), (6, .int a6), (7, .int a7)]) [1, 2, 3, 4, 0, 5, 6, 7] rfl ?_
  refine h_widen (k1 := (kk + 13)) (by omega) ?_
  exact g_L_law_b837 hfl hC hNc hL hX hbl hbA hdr hend hk hs138 M a3 t0 a5 a6 a7
set_option maxRecDepth 20000 in
set_option maxHeartbeats 4000000 in
theorem g_L_law_b830 {p : Program} {l : Launch} {e : Env} {s : State} {m : MethodId} {below : List Frame} {meth : Method} {c : Code} {Z : gZ} {Q : State → Prop} {b L : Nat} {xs : Nat → Int32} {D : Int32 → Int32} (hfl : l.stackTraces = false) (hC : gD p s m #[Value.ref b] c cL_law 14 RL Z) (hNc : gNc s) (hL : L ≤ 260) (hX : va_X b L xs s s.heap) (hbl : b < s.heap.size) (hbA : ¬ zA Z b) (hdr : ∀ x, D x = drw L xs x) (hend : ∀ (k : Nat) (M : gM) (lv : List (Nat × Value)), k ≤ 33146 → gV p l e room_1 s m #[Value.ref b] below meth c 14 Z Q k M 930 lv [.int 1]) {self138 : gM → Int32 → Int32 → Int32 → gR} {kk : Nat} (hk : kk + 609 ≤ 32814) (hs138 : ∀ (M : gM) (a3 : Int32) (a4 : Int32) (a5 : Int32), gY p l e room_1 s m #[Value.ref b] below meth c 14 Z (fun _ => Q) (kk + 609) M 138 [(0, .ref b), (1, .ref (zad Z 0)), (2, .ref (zad Z 146)), (3, .int a3), (4, .int a4), (5, .int a5)] [] (self138 M a3 a4 a5)) (M : gM) (a3 : Int32) (a5 : Int32) (a6 : Int32) (a7 : Int32) : gY p l e room_1 s m #[Value.ref b] below meth c 14 Z (fun _ => Q) (kk + 3) M 830 [(0, .ref b), (1, .ref (zad Z 0)), (2, .ref (zad Z 146)), (3, .int a3), (5, .int a5), (6, .int a6), (7, .int a7)] [] (f_L_law_b830 D self138 M a3 a5 a6 a7) := by
  unfold f_L_law_b830
  refine h_iconst hC (v := 1) dL_law_830 (by decide) ?_
  refine h_goto (tgt := 835) hC dL_law_831 (by decide) ?_
  exact g_L_law_b835 hfl hC hNc hL hX hbl hbA hdr hend hk hs138 M a3 a5 a6 a7 1
set_option maxRecDepth 20000 in
set_option maxHeartbeats 4000000 in
theorem g_L_law_b834 {p : Program} {l : Launch} {e : Env} {s : State} {m : MethodId} {below : List Frame} {meth : Method} {c : Code} {Z : gZ} {Q : State → Prop} {b L : Nat} {xs : Nat → Int32} {D : Int32 → Int32} (hfl : l.stackTraces = false) (hC : gD p s m #[Value.ref b] c cL_law 14 RL Z) (hNc : gNc s) (hL : L ≤ 260) (hX : va_X b L xs s s.heap) (hbl : b < s.heap.size) (hbA : ¬ zA Z b) (hdr : ∀ x, D x = drw L xs x) (hend : ∀ (k : Nat) (M : gM) (lv : List (Nat × Value)), k ≤ 33146 → gV p l e room_1 s m #[Value.ref b] below meth c 14 Z Q k M 930 lv [.int 1]) {self138 : gM → Int32 → Int32 → Int32 → gR} {kk : Nat} (hk : kk + 609 ≤ 32814) (hs138 : ∀ (M : gM) (a3 : Int32) (a4 : Int32) (a5 : Int32), gY p l e room_1 s m #[Value.ref b] below meth c 14 Z (fun _ => Q) (kk + 609) M 138 [(0, .ref b), (1, .ref (zad Z 0)), (2, .ref (zad Z 146)), (3, .int a3), (4, .int a4), (5, .int a5)] [] (self138 M a3 a4 a5)) (M : gM) (a3 : Int32) (a5 : Int32) (a6 : Int32) (a7 : Int32) : gY p l e room_1 s m #[Value.ref b] below meth c 14 Z (fun _ => Q) (kk + 3) M 834 [(0, .ref b), (1, .ref (zad Z 0)), (2, .ref (zad Z 146)), (3, .int a3), (5, .int a5), (6, .int a6), (7, .int a7)] [] (f_L_law_b834 D self138 M a3 a5 a6 a7) := by
  unfold f_L_law_b834
  refine h_iconst hC (v := 0) dL_law_834 (by decide) ?_
  exact g_L_law_b835 hfl hC hNc hL hX hbl hbA hdr hend hk hs138 M a3 a5 a6 a7 0
set_option maxRecDepth 20000 in
set_option maxHeartbeats 4000000 in
theorem g_L_law_b187 {p : Program} {l : Launch} {e : Env} {s : State} {m : MethodId} {below : List Frame} {meth : Method} {c : Code} {Z : gZ} {Q : State → Prop} {b L : Nat} {xs : Nat → Int32} {D : Int32 → Int32} (hfl : l.stackTraces = false) (hC : gD p s m #[Value.ref b] c cL_law 14 RL Z) (hNc : gNc s) (hL : L ≤ 260) (hX : va_X b L xs s s.heap) (hbl : b < s.heap.size) (hbA : ¬ zA Z b) (hdr : ∀ x, D x = drw L xs x) (hend : ∀ (k : Nat) (M : gM) (lv : List (Nat × Value)), k ≤ 33146 → gV p l e room_1 s m #[Value.ref b] below meth c 14 Z Q k M 930 lv [.int 1]) {self138 : gM → Int32 → Int32 → Int32 → gR} {kk : Nat} (hk : kk + 609 ≤ 32814) (hs138 : ∀ (M : gM) (a3 : Int32) (a4 : Int32) (a5 : Int32), gY p l e room_1 s m #[Value.ref b] below meth c 14 Z (fun _ => Q) (kk + 609) M 138 [(0, .ref b), (1, .ref (zad Z 0)), (2, .ref (zad Z 146)), (3, .int a3), (4, .int a4), (5, .int a5)] [] (self138 M a3 a4 a5)) (M : gM) (a3 : Int32) (a5 : Int32) (a6 : Int32) (a7 : Int32) (t0 : Int32) : gY p l e room_1 s m #[Value.ref b] below meth c 14 Z (fun _ => Q) kk M 187 [(0, .ref b), (1, .ref (zad Z 0)), (2, .ref (zad Z 146)), (3, .int a3), (5, .int a5), (6, .int a6), (7, .int a7)] [.int t0] (f_L_law_b187 D self138 M a3 a5 a6 a7 t0) := by
  unfold f_L_law_b187
  refine h_istore hC (lv1 := [(8, .int t0), (0, .ref b), (1, .ref (zad Z 0)), (2, .ref (zad Z 146)), (3, .int a3), (5, .int a5), (6, .int a6), (7, .int a7)]) dL_law_187 (by decide) rfl ?_
  refine h_aload_n hC 2 dL_law_189 rfl rfl ?_
  refine h_callN (n := 0) hC [] 0 8 (by decide) rfl rfl (c_X8_entries hfl Z M ) lk_L_206 mw_X8_entries.1 mw_X8_entries.2.1 mw_X8_entries.2.2.1 mw_X8_entries.2.2.2 ⟨rfl, by decide, by decide, by decide +kernel⟩ rfl rfl ⟨by decide, by decide⟩ rfl rfl (Nat.le_of_ble_eq_true rfl) (show kk ≤ 600104 from by omega) (show 6 * (kk) ≤ 7301313 from by omega) dL_law_190 (fun x2 M1 => ?_)
  refine h_istore hC (lv1 := [(9, .int x2), (8, .int t0), (0, .ref b), (1, .ref (zad Z 0)), (2, .ref (zad Z 146)), (3, .int a3), (5, .int a5), (6, .int a6), (7, .int a7)]) dL_law_193 (by decide) rfl ?_
  refine h_iload hC 1 dL_law_195 rfl ?_
  refine h_iconst hC (v := 2) dL_law_197 (by decide) ?_
  refine h_icmp_ge (tgt := 394) hC dL_law_198 (by decide) (fun _ => ?_) (fun _ => ?_)
  · refine h_iload hC 1 dL_law_394 rfl ?_
    refine h_bipush hC (v := 9) dL_law_396 (by decide) ?_
    refine h_icmp_ge (tgt := 427) hC dL_law_398 (by decide) (fun _ => ?_) (fun _ => ?_)
    · refine h_iload hC 1 dL_law_427 rfl ?_
      refine h_bipush hC (v := 12) dL_law_429 (by decide) ?_
      refine h_icmp_ge (tgt := 504) hC dL_law_431 (by decide) (fun _ => ?_) (fun _ => ?_)
      · refine h_iload hC 1 dL_law_504 rfl ?_
        refine h_bipush hC (v := 13) dL_law_506 (by decide) ?_
        refine h_icmp_ge (tgt := 594) hC dL_law_508 (by decide) (fun _ => ?_) (fun _ => ?_)
        · refine h_iload hC 1 dL_law_594 rfl ?_
          refine h_bipush hC (v := 14) dL_law_596 (by decide) ?_
          refine h_icmp_ge (tgt := 762) hC dL_law_598 (by decide) (fun _ => ?_) (fun _ => ?_)
          · refine h_aload_n hC 3 dL_law_762 rfl rfl ?_
            refine h_callN (n := 0) hC [] 0 8 (by decide) rfl rfl (c_X8_today hfl Z M1 ) lk_L_214 mw_X8_today.1 mw_X8_today.2.1 mw_X8_today.2.2.1 mw_X8_today.2.2.2 ⟨rfl, by decide, by decide, by decide +kernel⟩ rfl rfl ⟨by decide, by decide⟩ rfl rfl (Nat.le_of_ble_eq_true rfl) (show kk ≤ 600104 from by omega) (show 6 * (kk) ≤ 7301313 from by omega) dL_law_763 (fun x4 M3 => ?_)
            refine h_istore hC (lv1 := [(10, .int x4), (9, .int x2), (8, .int t0), (0, .ref b), (1, .ref (zad Z 0)), (2, .ref (zad Z 146)), (3, .int a3), (5, .int a5), (6, .int a6), (7, .int a7)]) dL_law_766 (by decide) rfl ?_
            refine h_aload_n hC 4 dL_law_768 rfl rfl ?_
            refine h_iconst hC (v := 1) dL_law_769 (by decide) ?_
            refine h_iload hC 9 dL_law_770 rfl ?_
            refine h_bipush hC (v := 17) dL_law_772 (by decide) ?_
            refine h_irem hC dL_law_774 ?_
            refine h_iadd hC dL_law_775 ?_
            refine h_callW (n := 2) hC [.ref (zad Z 0), .int (1 + (a7 - a7 / 17 * 17))] hNc (c_L_pass hfl Z M3 (1 + (a7 - a7 / 17 * 17))) lk_L_226 mw_L_pass.1 mw_L_pass.2.1 mw_L_pass.2.2 ⟨by decide, by decide, by decide +kernel⟩ rfl rfl ⟨by decide, by decide⟩ rfl rfl (Nat.le_of_ble_eq_true rfl) (show kk + 2 ≤ 600104 from by omega) (show 6 * (kk + 2) ≤ 7301313 from by omega) dL_law_776 (fun x6 M5 => ?_)
            refine h_iload hC 0 dL_law_779 rfl ?_
            refine h_iconst hC (v := 1) dL_law_781 (by decide) ?_
            refine h_iadd hC dL_law_782 ?_
            refine h_iload hC 9 dL_law_783 rfl ?_
            refine h_bipush hC (v := 17) dL_law_785 (by decide) ?_
            refine h_irem hC dL_law_787 ?_
            refine h_iadd hC dL_law_788 ?_
            refine h_i2l hC dL_law_789 ?_
            refine h_lcmp_ne (tgt := 834) hC dL_law_790 dL_law_791 (by decide) (fun _ => ?_) (fun _ => ?_)
            · refine h_iload hC 9 dL_law_794 rfl ?_
              refine h_bipush hC (v := 17) dL_law_796 (by decide) ?_
              refine h_idiv hC dL_law_798 ?_
              refine h_iconst hC (v := 3) dL_law_799 (by decide) ?_
              refine h_irem hC dL_law_800 ?_
              refine h_if_gt (tgt := 830) hC dL_law_801 (by decide) (fun _ => ?_) (fun _ => ?_)
              · refine h_sub (lv1 := [(0, .ref b), (1, .ref (zad Z 0)), (2, .ref (zad Z 146)), (3, .int a3), (5, .int a5), (6, .int a6), (7, .int a7)]) [3, 4, 5, 6, 7, 8, 9] rfl ?_
                refine h_widen (k1 := (kk + 3)) (by omega) ?_
                exact g_L_law_b830 hfl hC hNc hL hX hbl hbA hdr hend hk hs138 M5 a3 a5 a6 a7
              · refine h_aload_n hC 4 dL_law_804 rfl rfl ?_
                refine h_aload_n hC 4 dL_law_805 rfl rfl ?_
                refine h_callN (n := 0) hC [] 0 8 (by decide) rfl rfl (c_X8_today hfl Z M5 ) lk_L_214 mw_X8_today.1 mw_X8_today.2.1 mw_X8_today.2.2.1 mw_X8_today.2.2.2 ⟨rfl, by decide, by decide, by decide +kernel⟩ rfl rfl ⟨by decide, by decide⟩ rfl rfl (Nat.le_of_ble_eq_true rfl) (show (kk + 2) ≤ 600104 from by omega) (show 6 * ((kk + 2)) ≤ 7301313 from by omega) dL_law_806 (fun x8 M7 => ?_)
                refine h_iconst hC (v := 1) dL_law_809 (by decide) ?_
                refine h_iadd hC dL_law_810 ?_
                refine h_iload hC 9 dL_law_811 rfl ?_
                refine h_bipush hC (v := 51) dL_law_813 (by decide) ?_
                refine h_idiv hC dL_law_815 ?_
                refine h_bipush hC (v := 9) dL_law_816 (by decide) ?_
                refine h_irem hC dL_law_818 ?_
                refine h_iadd hC dL_law_819 ?_
                refine h_callW (n := 2) hC [.ref (zad Z 0), .int ((x8 + 1) + ((a7 / 51) - (a7 / 51) / 9 * 9))] hNc (c_L_holiday hfl Z M7 ((x8 + 1) + ((a7 / 51) - (a7 / 51) / 9 * 9))) lk_L_228 mw_L_holiday.1 mw_L_holiday.2.1 mw_L_holiday.2.2 ⟨by decide, by decide, by decide +kernel⟩ rfl rfl ⟨by decide, by decide⟩ rfl rfl (Nat.le_of_ble_eq_true rfl) (show (kk + 2) + 1 ≤ 600104 from by omega) (show 6 * ((kk + 2) + 1) ≤ 7301313 from by omega) dL_law_820 (fun x10 M9 => ?_)
                refine h_ldc2 hC (v := (-9000000000000000003)) lc_L_21 dL_law_823 ?_
                refine h_lcmp_lt (tgt := 834) hC dL_law_826 dL_law_827 (by decide) (fun _ => ?_) (fun _ => ?_)
                · refine h_sub (lv1 := [(0, .ref b), (1, .ref (zad Z 0)), (2, .ref (zad Z 146)), (3, .int a3), (5, .int a5), (6, .int a6), (7, .int a7)]) [3, 4, 5, 6, 7, 8, 9] rfl ?_
                  exact g_L_law_b834 hfl hC hNc hL hX hbl hbA hdr hend hk hs138 M9 a3 a5 a6 a7
                · refine h_sub (lv1 := [(0, .ref b), (1, .ref (zad Z 0)), (2, .ref (zad Z 146)), (3, .int a3), (5, .int a5), (6, .int a6), (7, .int a7)]) [3, 4, 5, 6, 7, 8, 9] rfl ?_
                  exact g_L_law_b830 hfl hC hNc hL hX hbl hbA hdr hend hk hs138 M9 a3 a5 a6 a7
            · refine h_sub (lv1 := [(0, .ref b), (1, .ref (zad Z 0)), (2, .ref (zad Z 146)), (3, .int a3), (5, .int a5), (6, .int a6), (7, .int a7)]) [3, 4, 5, 6, 7, 8, 9] rfl ?_
              refine h_widen (k1 := (kk + 3)) (by omega) ?_
              exact g_L_law_b834 hfl hC hNc hL hX hbl hbA hdr hend hk hs138 M5 a3 a5 a6 a7
          · refine h_aload_n hC 3 dL_law_601 rfl rfl ?_
            refine h_iconst hC (v := 0) dL_law_602 (by decide) ?_
            refine h_iload hC 8 dL_law_603 rfl ?_
            refine h_iload_n hC 5 dL_law_605 rfl rfl ?_
            refine h_irem hC dL_law_606 ?_
            refine h_callW (n := 3) hC [.ref (zad Z 0), .int 0, .int (a7 - a7 / a3 * a3)] hNc (c_L_due hfl Z M1 0 (a7 - a7 / a3 * a3)) lk_L_199 mw_L_due.1 mw_L_due.2.1 mw_L_due.2.2 ⟨by decide, by decide, by decide +kernel⟩ rfl rfl ⟨by decide, by decide⟩ rfl rfl (Nat.le_of_ble_eq_true rfl) (show kk + 2 ≤ 600104 from by omega) (show 6 * (kk + 2) ≤ 7301313 from by omega) dL_law_607 (fun x12 M11 => ?_)
            refine h_lstore hC (lv1 := [(10, .long x12), (9, .int x2), (8, .int t0), (0, .ref b), (1, .ref (zad Z 0)), (2, .ref (zad Z 146)), (3, .int a3), (5, .int a5), (6, .int a6), (7, .int a7)]) dL_law_610 (by decide) rfl ?_
            refine h_aload_n hC 4 dL_law_612 rfl rfl ?_
            refine h_iconst hC (v := 0) dL_law_613 (by decide) ?_
            refine h_iload hC 9 dL_law_614 rfl ?_
            refine h_iload_n hC 6 dL_law_616 rfl rfl ?_
            refine h_irem hC dL_law_617 ?_
            refine h_iconst hC (v := 1) dL_law_618 (by decide) ?_
            refine h_iload hC 9 dL_law_619 rfl ?_
            refine h_bipush hC (v := 64) dL_law_621 (by decide) ?_
            refine h_idiv hC dL_law_623 ?_
            refine h_bipush hC (v := 9) dL_law_624 (by decide) ?_
            refine h_irem hC dL_law_626 ?_
            refine h_iadd hC dL_law_627 ?_
            refine h_callW (n := 4) hC [.ref (zad Z 0), .int 0, .int (a7 - a7 / a3 * a3), .int (1 + ((a7 / 64) - (a7 / 64) / 9 * 9))] hNc (c_L_extend hfl Z M11 0 (a7 - a7 / a3 * a3) (1 + ((a7 / 64) - (a7 / 64) / 9 * 9))) lk_L_273 mw_L_extend.1 mw_L_extend.2.1 mw_L_extend.2.2 ⟨by decide, by decide, by decide +kernel⟩ rfl rfl ⟨by decide, by decide⟩ rfl rfl (Nat.le_of_ble_eq_true rfl) (show (kk + 2) + 4 ≤ 600104 from by omega) (show 6 * ((kk + 2) + 4) ≤ 7301313 from by omega) dL_law_628 (fun x14 M13 => ?_)
            refine h_lstore hC (lv1 := [(12, .long x14), (10, .long x12), (9, .int x2), (8, .int t0), (0, .ref b), (1, .ref (zad Z 0)), (2, .ref (zad Z 146)), (3, .int a3), (5, .int a5), (6, .int a6), (7, .int a7)]) dL_law_631 (by decide) rfl ?_
            refine h_lload hC 0 dL_law_633 rfl ?_
            refine h_ldc2 hC (v := (-9000000000000000003)) lc_L_21 dL_law_635 ?_
            refine h_lcmp_ne (tgt := 646) hC dL_law_638 dL_law_639 (by decide) (fun _ => ?_) (fun _ => ?_)
            · refine h_iconst hC (v := 1) dL_law_642 (by decide) ?_
              refine h_goto (tgt := 647) hC dL_law_643 (by decide) ?_
              refine h_sub (lv1 := [(0, .ref b), (1, .ref (zad Z 0)), (2, .ref (zad Z 146)), (3, .int a3), (5, .int a5), (6, .int a6), (7, .int a7), (10, .long x12), (12, .long x14)]) [4, 5, 6, 7, 8, 9, 10, 1, 0] rfl ?_
              exact g_L_law_b647 hfl hC hNc hL hX hbl hbA hdr hend hk hs138 M13 a3 a5 a6 a7 x12 x14 1
            · refine h_iconst hC (v := 0) dL_law_646 (by decide) ?_
              refine h_sub (lv1 := [(0, .ref b), (1, .ref (zad Z 0)), (2, .ref (zad Z 146)), (3, .int a3), (5, .int a5), (6, .int a6), (7, .int a7), (10, .long x12), (12, .long x14)]) [4, 5, 6, 7, 8, 9, 10, 1, 0] rfl ?_
              exact g_L_law_b647 hfl hC hNc hL hX hbl hbA hdr hend hk hs138 M13 a3 a5 a6 a7 x12 x14 0
        · refine h_aload_n hC 3 dL_law_511 rfl rfl ?_
          refine h_iload hC 7 dL_law_512 rfl ?_
          refine h_bipush hC (v := 16) dL_law_514 (by decide) ?_
          refine h_idiv hC dL_law_516 ?_
          refine h_iconst hC (v := 2) dL_law_517 (by decide) ?_
          refine h_irem hC dL_law_518 ?_
          refine h_iload hC 8 dL_law_519 rfl ?_
          refine h_iconst hC (v := 2) dL_law_521 (by decide) ?_
          refine h_irem hC dL_law_522 ?_
          refine h_if_ne (tgt := 530) hC dL_law_523 (by decide) (fun _ => ?_) (fun _ => ?_)
          · refine h_iconst hC (v := 1) dL_law_526 (by decide) ?_
            refine h_goto (tgt := 531) hC dL_law_527 (by decide) ?_
            refine h_sub (lv1 := [(0, .ref b), (1, .ref (zad Z 0)), (2, .ref (zad Z 146)), (3, .int a3), (5, .int a5), (6, .int a6), (7, .int a7), (9, .int x2)]) [2, 3, 4, 5, 6, 7, 8, 0] rfl ?_
            exact g_L_law_b531 hfl hC hNc hL hX hbl hbA hdr hend hk hs138 M1 a3 a5 a6 a7 x2 ((a6 / 16) - (a6 / 16) / 2 * 2) 1
          · refine h_iconst hC (v := 0) dL_law_530 (by decide) ?_
            refine h_sub (lv1 := [(0, .ref b), (1, .ref (zad Z 0)), (2, .ref (zad Z 146)), (3, .int a3), (5, .int a5), (6, .int a6), (7, .int a7), (9, .int x2)]) [2, 3, 4, 5, 6, 7, 8, 0] rfl ?_
            exact g_L_law_b531 hfl hC hNc hL hX hbl hbA hdr hend hk hs138 M1 a3 a5 a6 a7 x2 ((a6 / 16) - (a6 / 16) / 2 * 2) 0
      · refine h_iload hC 0 dL_law_434 rfl ?_
        refine h_if_eq (tgt := 494) hC dL_law_436 (by decide) (fun _ => ?_) (fun _ => ?_)
        · refine h_sub (lv1 := [(0, .ref b), (1, .ref (zad Z 0)), (2, .ref (zad Z 146)), (3, .int a3), (5, .int a5), (6, .int a6), (7, .int a7)]) [2, 3, 4, 5, 6, 7, 8] rfl ?_
          refine h_widen (k1 := (kk + 13)) (by omega) ?_
          exact g_L_law_b494 hfl hC hNc hL hX hbl hbA hdr hend hk hs138 M1 a3 a5 a6 a7
        · refine h_aload_n hC 3 dL_law_439 rfl rfl ?_
          refine h_iload hC 7 dL_law_440 rfl ?_
          refine h_bipush hC (v := 16) dL_law_442 (by decide) ?_
          refine h_idiv hC dL_law_444 ?_
          refine h_bipush hC (v := 6) dL_law_445 (by decide) ?_
          refine h_irem hC dL_law_447 ?_
          refine h_iconst hC (v := 4) dL_law_448 (by decide) ?_
          refine h_icmp_ge (tgt := 470) hC dL_law_449 (by decide) (fun _ => ?_) (fun _ => ?_)
          · refine h_sub (lv1 := [(0, .ref b), (1, .ref (zad Z 0)), (2, .ref (zad Z 146)), (3, .int a3), (5, .int a5), (6, .int a6), (7, .int a7), (9, .int x2)]) [2, 3, 4, 5, 6, 7, 8, 0] rfl ?_
            exact g_L_law_b470 hfl hC hNc hL hX hbl hbA hdr hend hk hs138 M1 a3 a5 a6 a7 x2
          · refine h_iload hC 0 dL_law_452 rfl ?_
            refine h_iconst hC (v := 4) dL_law_454 (by decide) ?_
            refine h_icmp_le (tgt := 470) hC dL_law_455 (by decide) (fun _ => ?_) (fun _ => ?_)
            · refine h_sub (lv1 := [(0, .ref b), (1, .ref (zad Z 0)), (2, .ref (zad Z 146)), (3, .int a3), (5, .int a5), (6, .int a6), (7, .int a7), (9, .int x2)]) [2, 3, 4, 5, 6, 7, 8, 0] rfl ?_
              exact g_L_law_b470 hfl hC hNc hL hX hbl hbA hdr hend hk hs138 M1 a3 a5 a6 a7 x2
            · refine h_iload hC 0 dL_law_458 rfl ?_
              refine h_iconst hC (v := 1) dL_law_460 (by decide) ?_
              refine h_isub hC dL_law_461 ?_
              refine h_iload hC 8 dL_law_462 rfl ?_
              refine h_iconst hC (v := 4) dL_law_464 (by decide) ?_
              refine h_irem hC dL_law_465 ?_
              refine h_isub hC dL_law_466 ?_
              refine h_goto (tgt := 475) hC dL_law_467 (by decide) ?_
              refine h_sub (lv1 := [(0, .ref b), (1, .ref (zad Z 0)), (2, .ref (zad Z 146)), (3, .int a3), (5, .int a5), (6, .int a6), (7, .int a7)]) [2, 3, 4, 5, 6, 7, 8] rfl ?_
              exact g_L_law_b475 hfl hC hNc hL hX hbl hbA hdr hend hk hs138 M1 a3 a5 a6 a7 ((x2 - 1) - (a7 - a7 / 4 * 4))
    · refine h_aload_n hC 3 dL_law_401 rfl rfl ?_
      refine h_iload hC 8 dL_law_402 rfl ?_
      refine h_iload_n hC 5 dL_law_404 rfl rfl ?_
      refine h_irem hC dL_law_405 ?_
      refine h_iload hC 7 dL_law_406 rfl ?_
      refine h_bipush hC (v := 16) dL_law_408 (by decide) ?_
      refine h_idiv hC dL_law_410 ?_
      refine h_bipush hC (v := 8) dL_law_411 (by decide) ?_
      refine h_irem hC dL_law_413 ?_
      refine h_iload hC 8 dL_law_414 rfl ?_
      refine h_bipush hC (v := 64) dL_law_416 (by decide) ?_
      refine h_idiv hC dL_law_418 ?_
      refine h_callB (n := 4) hC [.ref (zad Z 0), .int (a7 - a7 / a3 * a3), .int ((a6 / 16) - (a6 / 16) / 8 * 8), .int (a7 / 64)] hNc (c_L_steps hfl Z M1 (a7 - a7 / a3 * a3) ((a6 / 16) - (a6 / 16) / 8 * 8) (a7 / 64)) lk_L_319 mw_L_steps.1 mw_L_steps.2.1 mw_L_steps.2.2 ⟨by decide, by decide, by decide +kernel⟩ rfl rfl ⟨by decide, by decide⟩ rfl rfl (Nat.le_of_ble_eq_true rfl) (show kk + 13 ≤ 600104 from by omega) (show 6 * (kk + 13) ≤ 7301313 from by omega) dL_law_419 (fun x16 M15 => ?_)
      refine h_istore hC (lv1 := [(4, .int x16), (9, .int x2), (8, .int t0), (0, .ref b), (1, .ref (zad Z 0)), (2, .ref (zad Z 146)), (3, .int a3), (5, .int a5), (6, .int a6), (7, .int a7)]) dL_law_422 (by decide) rfl ?_
      refine h_goto (tgt := 837) hC dL_law_424 (by decide) ?_
      refine h_sub (lv1 := [(0, .ref b), (1, .ref (zad Z 0)), (2, .ref (zad Z 146)), (3, .int a3), (4, .int x16), (5, .int a5), (6, .int a6), (7, .int a7)]) [3, 4, 5, 6, 0, 7, 8, 9] rfl ?_
      exact g_L_law_b837 hfl hC hNc hL hX hbl hbA hdr hend hk hs138 M15 a3 x16 a5 a6 a7
  · refine h_iload hC 7 dL_law_201 rfl ?_
    refine h_bipush hC (v := 16) dL_law_203 (by decide) ?_
    refine h_idiv hC dL_law_205 ?_
    refine h_iconst hC (v := 2) dL_law_206 (by decide) ?_
    refine h_irem hC dL_law_207 ?_
    refine h_bv (fun x17 => ?_)
    refine h_istore hC (lv1 := [(10, .int x17), (9, .int x2), (8, .int t0), (0, .ref b), (1, .ref (zad Z 0)), (2, .ref (zad Z 146)), (3, .int a3), (5, .int a5), (6, .int a6), (7, .int a7)]) dL_law_208 (by decide) rfl ?_
    refine h_iload hC 0 dL_law_210 rfl ?_
    refine h_if_ne (tgt := 250) hC dL_law_212 (by decide) (fun _ => ?_) (fun _ => ?_)
    · refine h_aload_n hC 4 dL_law_215 rfl rfl ?_
      refine h_iconst hC (v := 0) dL_law_216 (by decide) ?_
      refine h_iload hC 9 dL_law_217 rfl ?_
      refine h_iconst hC (v := 3) dL_law_219 (by decide) ?_
      refine h_irem hC dL_law_220 ?_
      refine h_iconst hC (v := 2) dL_law_221 (by decide) ?_
      refine h_imul hC dL_law_222 ?_
      refine h_iload hC 9 dL_law_223 rfl ?_
      refine h_iconst hC (v := 3) dL_law_225 (by decide) ?_
      refine h_idiv hC dL_law_226 ?_
      refine h_iconst hC (v := 3) dL_law_227 (by decide) ?_
      refine h_irem hC dL_law_228 ?_
      refine h_iconst hC (v := 2) dL_law_229 (by decide) ?_
      refine h_imul hC dL_law_230 ?_
      refine h_iconst hC (v := 1) dL_law_231 (by decide) ?_
      refine h_iadd hC dL_law_232 ?_
      refine h_iconst hC (v := 1) dL_law_233 (by decide) ?_
      refine h_iload hC 9 dL_law_234 rfl ?_
      refine h_bipush hC (v := 9) dL_law_236 (by decide) ?_
      refine h_idiv hC dL_law_238 ?_
      refine h_sipush hC (v := 5000) dL_law_239 (by decide) ?_
      refine h_irem hC dL_law_242 ?_
      refine h_iadd hC dL_law_243 ?_
      refine h_callW (n := 5) hC [.ref (zad Z 0), .int 0, .int ((a7 - a7 / 3 * 3) * 2), .int ((((a7 / 3) - (a7 / 3) / 3 * 3) * 2) + 1), .int (1 + ((a7 / 9) - (a7 / 9) / 5000 * 5000))] hNc (c_L_claim hfl Z M1 0 ((a7 - a7 / 3 * 3) * 2) ((((a7 / 3) - (a7 / 3) / 3 * 3) * 2) + 1) (1 + ((a7 / 9) - (a7 / 9) / 5000 * 5000))) lk_L_239 mw_L_claim.1 mw_L_claim.2.1 mw_L_claim.2.2 ⟨by decide, by decide, by decide +kernel⟩ rfl rfl ⟨by decide, by decide⟩ rfl rfl (Nat.le_of_ble_eq_true rfl) (show kk + 5 ≤ 600104 from by omega) (show 6 * (kk + 5) ≤ 7301313 from by omega) dL_law_244 (fun x19 M18 => ?_)
      refine h_goto (tgt := 281) hC dL_law_247 (by decide) ?_
      refine h_sub (lv1 := [(0, .ref b), (1, .ref (zad Z 0)), (2, .ref (zad Z 146)), (3, .int a3), (5, .int a5), (6, .int a6), (7, .int a7), (9, .int x2)]) [3, 4, 5, 6, 7, 8, 9, 1] rfl ?_
      exact g_L_law_b281 hfl hC hNc hL hX hbl hbA hdr hend hk hs138 M18 a3 a5 a6 a7 x2 x19
    · refine h_aload_n hC 4 dL_law_250 rfl rfl ?_
      refine h_iconst hC (v := 1) dL_law_251 (by decide) ?_
      refine h_iconst hC (v := 4) dL_law_252 (by decide) ?_
      refine h_iload hC 9 dL_law_253 rfl ?_
      refine h_iconst hC (v := 3) dL_law_255 (by decide) ?_
      refine h_irem hC dL_law_256 ?_
      refine h_iadd hC dL_law_257 ?_
      refine h_bipush hC (v := 7) dL_law_258 (by decide) ?_
      refine h_iload hC 9 dL_law_260 rfl ?_
      refine h_iconst hC (v := 3) dL_law_262 (by decide) ?_
      refine h_idiv hC dL_law_263 ?_
      refine h_iconst hC (v := 3) dL_law_264 (by decide) ?_
      refine h_irem hC dL_law_265 ?_
      refine h_iadd hC dL_law_266 ?_
      refine h_iconst hC (v := 1) dL_law_267 (by decide) ?_
      refine h_iload hC 9 dL_law_268 rfl ?_
      refine h_bipush hC (v := 9) dL_law_270 (by decide) ?_
      refine h_idiv hC dL_law_272 ?_
      refine h_sipush hC (v := 5000) dL_law_273 (by decide) ?_
      refine h_irem hC dL_law_276 ?_
      refine h_iadd hC dL_law_277 ?_
      refine h_callW (n := 5) hC [.ref (zad Z 0), .int 1, .int (4 + (a7 - a7 / 3 * 3)), .int (7 + ((a7 / 3) - (a7 / 3) / 3 * 3)), .int (1 + ((a7 / 9) - (a7 / 9) / 5000 * 5000))] hNc (c_L_claim hfl Z M1 1 (4 + (a7 - a7 / 3 * 3)) (7 + ((a7 / 3) - (a7 / 3) / 3 * 3)) (1 + ((a7 / 9) - (a7 / 9) / 5000 * 5000))) lk_L_239 mw_L_claim.1 mw_L_claim.2.1 mw_L_claim.2.2 ⟨by decide, by decide, by decide +kernel⟩ rfl rfl ⟨by decide, by decide⟩ rfl rfl (Nat.le_of_ble_eq_true rfl) (show kk + 5 ≤ 600104 from by omega) (show 6 * (kk + 5) ≤ 7301313 from by omega) dL_law_278 (fun x21 M20 => ?_)
      refine h_sub (lv1 := [(0, .ref b), (1, .ref (zad Z 0)), (2, .ref (zad Z 146)), (3, .int a3), (5, .int a5), (6, .int a6), (7, .int a7), (9, .int x2)]) [3, 4, 5, 6, 7, 8, 9, 1] rfl ?_
      exact g_L_law_b281 hfl hC hNc hL hX hbl hbA hdr hend hk hs138 M20 a3 a5 a6 a7 x2 x21
set_option maxRecDepth 20000 in
set_option maxHeartbeats 4000000 in
theorem g_L_law_b912 {p : Program} {l : Launch} {e : Env} {s : State} {m : MethodId} {below : List Frame} {meth : Method} {c : Code} {Z : gZ} {Q : State → Prop} {b L : Nat} {xs : Nat → Int32} {D : Int32 → Int32} (hfl : l.stackTraces = false) (hC : gD p s m #[Value.ref b] c cL_law 14 RL Z) (hNc : gNc s) (hL : L ≤ 260) (hX : va_X b L xs s s.heap) (hbl : b < s.heap.size) (hbA : ¬ zA Z b) (hdr : ∀ x, D x = drw L xs x) (hend : ∀ (k : Nat) (M : gM) (lv : List (Nat × Value)), k ≤ 33146 → gV p l e room_1 s m #[Value.ref b] below meth c 14 Z Q k M 930 lv [.int 1]) (M : gM) (a4 : Int32) : gY p l e room_1 s m #[Value.ref b] below meth c 14 Z (fun _ => Q) 32814 M 912 [(1, .ref (zad Z 0)), (4, .int a4)] [] (f_L_law_b912 D M a4) := by
  unfold f_L_law_b912
  refine h_iload hC 1 dL_law_912 rfl ?_
  refine h_if_eq (tgt := 929) hC dL_law_914 (by decide) (fun _ => ?_) (fun _ => ?_)
  · refine h_iconst hC (v := 0) dL_law_929 (by decide) ?_
    exact h_lret hend (Nat.le_of_ble_eq_true rfl)
  · refine h_aload_n hC 0 dL_law_917 rfl rfl ?_
    refine h_iconst hC (v := 3) dL_law_918 (by decide) ?_
    refine h_callB (n := 2) hC [.ref (zad Z 0), .int 3] hNc (c_L_entries hfl Z M 3) lk_L_331 mw_L_entries.1 mw_L_entries.2.1 mw_L_entries.2.2 ⟨by decide, by decide, by decide +kernel⟩ rfl rfl ⟨by decide, by decide⟩ rfl rfl (Nat.le_of_ble_eq_true rfl) (Nat.le_of_ble_eq_true rfl) (Nat.le_of_ble_eq_true rfl) dL_law_919 (fun x2 M1 => ?_)
    refine h_if_eq (tgt := 929) hC dL_law_922 (by decide) (fun _ => ?_) (fun _ => ?_)
    · refine h_iconst hC (v := 0) dL_law_929 (by decide) ?_
      exact h_lret hend (Nat.le_of_ble_eq_true rfl)
    · refine h_iconst hC (v := 1) dL_law_925 (by decide) ?_
      refine h_goto (tgt := 930) hC dL_law_926 (by decide) ?_
      exact h_lret hend (Nat.le_of_ble_eq_true rfl)
set_option maxRecDepth 20000 in
set_option maxHeartbeats 4000000 in
theorem g_L_law_lb138 {p : Program} {l : Launch} {e : Env} {s : State} {m : MethodId} {below : List Frame} {meth : Method} {c : Code} {Z : gZ} {Q : State → Prop} {b L : Nat} {xs : Nat → Int32} {D : Int32 → Int32} (hfl : l.stackTraces = false) (hC : gD p s m #[Value.ref b] c cL_law 14 RL Z) (hNc : gNc s) (hL : L ≤ 260) (hX : va_X b L xs s s.heap) (hbl : b < s.heap.size) (hbA : ¬ zA Z b) (hdr : ∀ x, D x = drw L xs x) (hend : ∀ (k : Nat) (M : gM) (lv : List (Nat × Value)), k ≤ 33146 → gV p l e room_1 s m #[Value.ref b] below meth c 14 Z Q k M 930 lv [.int 1]) {self138 : gM → Int32 → Int32 → Int32 → gR} {kk : Nat} (hk : kk + 609 ≤ 32814) (hs138 : ∀ (M : gM) (a3 : Int32) (a4 : Int32) (a5 : Int32), gY p l e room_1 s m #[Value.ref b] below meth c 14 Z (fun _ => Q) (kk + 609) M 138 [(0, .ref b), (1, .ref (zad Z 0)), (2, .ref (zad Z 146)), (3, .int a3), (4, .int a4), (5, .int a5)] [] (self138 M a3 a4 a5)) (M : gM) (a3 : Int32) (a4 : Int32) (a5 : Int32) : gY p l e room_1 s m #[Value.ref b] below meth c 14 Z (fun _ => Q) kk M 138 [(0, .ref b), (1, .ref (zad Z 0)), (2, .ref (zad Z 146)), (3, .int a3), (4, .int a4), (5, .int a5)] [] (f_L_law_lb138 D self138 M a3 a4 a5) := by
  unfold f_L_law_lb138
  refine h_iload hC 5 dL_law_138 rfl ?_
  refine h_bipush hC (v := 46) dL_law_140 (by decide) ?_
  refine h_icmp_ge (tgt := 912) hC dL_law_142 (by decide) (fun _ => ?_) (fun _ => ?_)
  · refine h_widen (k1 := 32814) (by omega) ?_
    refine h_sub (lv1 := [(1, .ref (zad Z 0)), (4, .int a4)]) [1, 4] rfl ?_
    exact g_L_law_b912 hfl hC hNc hL hX hbl hbA hdr hend M a4
  · refine h_iload hC 4 dL_law_145 rfl ?_
    refine h_if_eq (tgt := 912) hC dL_law_147 (by decide) (fun _ => ?_) (fun _ => ?_)
    · refine h_widen (k1 := 32814) (by omega) ?_
      refine h_sub (lv1 := [(1, .ref (zad Z 0)), (4, .int a4)]) [1, 4] rfl ?_
      exact g_L_law_b912 hfl hC hNc hL hX hbl hbA hdr hend M a4
    · refine h_aload_n hC 0 dL_law_150 rfl rfl ?_
      refine h_iconst hC (v := 2) dL_law_151 (by decide) ?_
      refine h_iload hC 5 dL_law_152 rfl ?_
      refine h_imul hC dL_law_154 ?_
      refine h_draw hC hL hX hbl hbA hdr lk_L_315 ⟨by decide, by decide⟩ (Nat.le_of_ble_eq_true rfl) (show kk ≤ 600104 from by omega) (show 6 * (kk) ≤ 7301313 from by omega) dL_law_155 ?_
      refine h_bv (fun x1 => ?_)
      refine h_istore hC (lv1 := [(6, .int x1), (0, .ref b), (1, .ref (zad Z 0)), (2, .ref (zad Z 146)), (3, .int a3), (4, .int a4), (5, .int a5)]) dL_law_158 (by decide) rfl ?_
      refine h_aload_n hC 1 dL_law_160 rfl rfl ?_
      refine h_iconst hC (v := 2) dL_law_161 (by decide) ?_
      refine h_iload hC 6 dL_law_162 rfl ?_
      refine h_imul hC dL_law_164 ?_
      refine h_iconst hC (v := 1) dL_law_165 (by decide) ?_
      refine h_iadd hC dL_law_166 ?_
      refine h_draw hC hL hX hbl hbA hdr lk_L_315 ⟨by decide, by decide⟩ (Nat.le_of_ble_eq_true rfl) (show kk ≤ 600104 from by omega) (show 6 * (kk) ≤ 7301313 from by omega) dL_law_167 ?_
      refine h_bv (fun x2 => ?_)
      refine h_istore hC (lv1 := [(7, .int x2), (6, .int x1), (0, .ref b), (1, .ref (zad Z 0)), (2, .ref (zad Z 146)), (3, .int a3), (4, .int a4), (5, .int a5)]) dL_law_170 (by decide) rfl ?_
      refine h_iload hC 7 dL_law_172 rfl ?_
      refine h_iconst hC (v := 3) dL_law_174 (by decide) ?_
      refine h_icmp_ge (tgt := 182) hC dL_law_175 (by decide) (fun _ => ?_) (fun _ => ?_)
      · refine h_iload hC 1 dL_law_182 rfl ?_
        refine h_bipush hC (v := 16) dL_law_184 (by decide) ?_
        refine h_irem hC dL_law_186 ?_
        refine h_sub (lv1 := [(0, .ref b), (1, .ref (zad Z 0)), (2, .ref (zad Z 146)), (3, .int a3), (5, .int a5), (6, .int x1), (7, .int x2)]) [2, 3, 4, 5, 7, 1, 0] rfl ?_
        exact g_L_law_b187 hfl hC hNc hL hX hbl hbA hdr hend hk hs138 M a3 a5 x1 x2 (x1 - x1 / 16 * 16)
      · refine h_iconst hC (v := 0) dL_law_178 (by decide) ?_
        refine h_goto (tgt := 187) hC dL_law_179 (by decide) ?_
        refine h_sub (lv1 := [(0, .ref b), (1, .ref (zad Z 0)), (2, .ref (zad Z 146)), (3, .int a3), (5, .int a5), (6, .int x1), (7, .int x2)]) [2, 3, 4, 5, 7, 1, 0] rfl ?_
        exact g_L_law_b187 hfl hC hNc hL hX hbl hbA hdr hend hk hs138 M a3 a5 x1 x2 0
set_option maxRecDepth 20000 in
set_option maxHeartbeats 4000000 in
theorem g_L_law_l138 {p : Program} {l : Launch} {e : Env} {s : State} {m : MethodId} {below : List Frame} {meth : Method} {c : Code} {Z : gZ} {Q : State → Prop} {b L : Nat} {xs : Nat → Int32} {D : Int32 → Int32} (hfl : l.stackTraces = false) (hC : gD p s m #[Value.ref b] c cL_law 14 RL Z) (hNc : gNc s) (hL : L ≤ 260) (hX : va_X b L xs s s.heap) (hbl : b < s.heap.size) (hbA : ¬ zA Z b) (hdr : ∀ x, D x = drw L xs x) (hend : ∀ (k : Nat) (M : gM) (lv : List (Nat × Value)), k ≤ 33146 → gV p l e room_1 s m #[Value.ref b] below meth c 14 Z Q k M 930 lv [.int 1]) : ∀ (n kk : Nat), kk + n * 609 ≤ 32814 → ∀ (M : gM) (a3 : Int32) (a4 : Int32) (a5 : Int32), gY p l e room_1 s m #[Value.ref b] below meth c 14 Z (fun _ => Q) kk M 138 [(0, .ref b), (1, .ref (zad Z 0)), (2, .ref (zad Z 146)), (3, .int a3), (4, .int a4), (5, .int a5)] [] (f_L_law_l138 D n M a3 a4 a5)
  | 0, _, _, _, _, _, _ => h_stuck
  | n + 1, kk, hk, M, a3, a4, a5 => g_L_law_lb138 hfl hC hNc hL hX hbl hbA hdr hend (by omega) (g_L_law_l138 hfl hC hNc hL hX hbl hbA hdr hend n (kk + 609) (by omega)) M a3 a4 a5
set_option maxRecDepth 20000 in
set_option maxHeartbeats 4000000 in
theorem g_L_law_b135 {p : Program} {l : Launch} {e : Env} {s : State} {m : MethodId} {below : List Frame} {meth : Method} {c : Code} {Z : gZ} {Q : State → Prop} {b L : Nat} {xs : Nat → Int32} {D : Int32 → Int32} (hfl : l.stackTraces = false) (hC : gD p s m #[Value.ref b] c cL_law 14 RL Z) (hNc : gNc s) (hL : L ≤ 260) (hX : va_X b L xs s s.heap) (hbl : b < s.heap.size) (hbA : ¬ zA Z b) (hdr : ∀ x, D x = drw L xs x) (hend : ∀ (k : Nat) (M : gM) (lv : List (Nat × Value)), k ≤ 33146 → gV p l e room_1 s m #[Value.ref b] below meth c 14 Z Q k M 930 lv [.int 1]) (M : gM) (a3 : Int32) (a4 : Int32) : gY p l e room_1 s m #[Value.ref b] below meth c 14 Z (fun _ => Q) 4191 M 135 [(0, .ref b), (1, .ref (zad Z 0)), (2, .ref (zad Z 146)), (3, .int a3), (4, .int a4)] [] (f_L_law_b135 D M a3 a4) := by
  unfold f_L_law_b135
  refine h_iconst hC (v := 0) dL_law_135 (by decide) ?_
  refine h_istore hC (lv1 := [(5, .int 0), (0, .ref b), (1, .ref (zad Z 0)), (2, .ref (zad Z 146)), (3, .int a3), (4, .int a4)]) dL_law_136 (by decide) rfl ?_
  refine h_sub (lv1 := [(0, .ref b), (1, .ref (zad Z 0)), (2, .ref (zad Z 146)), (3, .int a3), (4, .int a4), (5, .int 0)]) [1, 2, 3, 4, 5, 0] rfl ?_
  refine h_widen (k1 := 4191) (Nat.le_of_ble_eq_true rfl) ?_
  exact g_L_law_l138 hfl hC hNc hL hX hbl hbA hdr hend 47 4191 (Nat.le_of_ble_eq_true rfl) M a3 a4 0
set_option maxRecDepth 20000 in
set_option maxHeartbeats 4000000 in
theorem g_L_law_lb53 {p : Program} {l : Launch} {e : Env} {s : State} {m : MethodId} {below : List Frame} {meth : Method} {c : Code} {Z : gZ} {Q : State → Prop} {b L : Nat} {xs : Nat → Int32} {D : Int32 → Int32} (hfl : l.stackTraces = false) (hC : gD p s m #[Value.ref b] c cL_law 14 RL Z) (hNc : gNc s) (hL : L ≤ 260) (hX : va_X b L xs s s.heap) (hbl : b < s.heap.size) (hbA : ¬ zA Z b) (hdr : ∀ x, D x = drw L xs x) (hend : ∀ (k : Nat) (M : gM) (lv : List (Nat × Value)), k ≤ 33146 → gV p l e room_1 s m #[Value.ref b] below meth c 14 Z Q k M 930 lv [.int 1]) {self53 : gM → Int32 → Int32 → Int32 → gR} {kk : Nat} (hk : kk + 12 ≤ 4191) (hs53 : ∀ (M : gM) (a3 : Int32) (a4 : Int32) (a5 : Int32), gY p l e room_1 s m #[Value.ref b] below meth c 14 Z (fun _ => Q) (kk + 12) M 53 [(0, .ref b), (1, .ref (zad Z 0)), (2, .ref (zad Z 146)), (3, .int a3), (4, .int a4), (5, .int a5)] [] (self53 M a3 a4 a5)) (M : gM) (a3 : Int32) (a4 : Int32) (a5 : Int32) : gY p l e room_1 s m #[Value.ref b] below meth c 14 Z (fun _ => Q) kk M 53 [(0, .ref b), (1, .ref (zad Z 0)), (2, .ref (zad Z 146)), (3, .int a3), (4, .int a4), (5, .int a5)] [] (f_L_law_lb53 D self53 M a3 a4 a5) := by
  unfold f_L_law_lb53
  refine h_iload hC 5 dL_law_53 rfl ?_
  refine h_bipush hC (v := 6) dL_law_55 (by decide) ?_
  refine h_icmp_ge (tgt := 135) hC dL_law_57 (by decide) (fun _ => ?_) (fun _ => ?_)
  · refine h_widen (k1 := 4191) (by omega) ?_
    refine h_sub (lv1 := [(0, .ref b), (1, .ref (zad Z 0)), (2, .ref (zad Z 146)), (3, .int a3), (4, .int a4)]) [0, 1, 2, 3, 4] rfl ?_
    exact g_L_law_b135 hfl hC hNc hL hX hbl hbA hdr hend M a3 a4
  · refine h_iload hC 4 dL_law_60 rfl ?_
    refine h_if_eq (tgt := 135) hC dL_law_62 (by decide) (fun _ => ?_) (fun _ => ?_)
    · refine h_widen (k1 := 4191) (by omega) ?_
      refine h_sub (lv1 := [(0, .ref b), (1, .ref (zad Z 0)), (2, .ref (zad Z 146)), (3, .int a3), (4, .int a4)]) [0, 1, 2, 3, 4] rfl ?_
      exact g_L_law_b135 hfl hC hNc hL hX hbl hbA hdr hend M a3 a4
    · refine h_aload_n hC 1 dL_law_65 rfl rfl ?_
      refine h_iconst hC (v := 0) dL_law_66 (by decide) ?_
      refine h_iload hC 5 dL_law_67 rfl ?_
      refine h_iload hC 5 dL_law_69 rfl ?_
      refine h_iconst hC (v := 2) dL_law_71 (by decide) ?_
      refine h_irem hC dL_law_72 ?_
      refine h_callW (n := 4) hC [.ref (zad Z 0), .int 0, .int a5, .int (a5 - a5 / 2 * 2)] hNc (c_L_join hfl Z M 0 a5 (a5 - a5 / 2 * 2)) lk_L_235 mw_L_join.1 mw_L_join.2.1 mw_L_join.2.2 ⟨by decide, by decide, by decide +kernel⟩ rfl rfl ⟨by decide, by decide⟩ rfl rfl (Nat.le_of_ble_eq_true rfl) (show kk + 4 ≤ 600104 from by omega) (show 6 * (kk + 4) ≤ 7301313 from by omega) dL_law_73 (fun x2 M1 => ?_)
      refine h_iload hC 5 dL_law_76 rfl ?_
      refine h_i2l hC dL_law_78 ?_
      refine h_lconst hC (v := 1) dL_law_79 (by decide) ?_
      refine h_ladd hC dL_law_80 ?_
      refine h_lcmp_ne (tgt := 126) hC dL_law_81 dL_law_82 (by decide) (fun _ => ?_) (fun _ => ?_)
      · refine h_aload_n hC 1 dL_law_85 rfl rfl ?_
        refine h_iconst hC (v := 1) dL_law_86 (by decide) ?_
        refine h_iload hC 5 dL_law_87 rfl ?_
        refine h_iconst hC (v := 4) dL_law_89 (by decide) ?_
        refine h_iadd hC dL_law_90 ?_
        refine h_iload hC 5 dL_law_91 rfl ?_
        refine h_iconst hC (v := 3) dL_law_93 (by decide) ?_
        refine h_idiv hC dL_law_94 ?_
        refine h_callW (n := 4) hC [.ref (zad Z 0), .int 1, .int (a5 + 4), .int (a5 / 3)] hNc (c_L_join hfl Z M1 1 (a5 + 4) (a5 / 3)) lk_L_235 mw_L_join.1 mw_L_join.2.1 mw_L_join.2.2 ⟨by decide, by decide, by decide +kernel⟩ rfl rfl ⟨by decide, by decide⟩ rfl rfl (Nat.le_of_ble_eq_true rfl) (show (kk + 4) + 4 ≤ 600104 from by omega) (show 6 * ((kk + 4) + 4) ≤ 7301313 from by omega) dL_law_95 (fun x4 M3 => ?_)
        refine h_iload hC 5 dL_law_98 rfl ?_
        refine h_i2l hC dL_law_100 ?_
        refine h_lconst hC (v := 1) dL_law_101 (by decide) ?_
        refine h_ladd hC dL_law_102 ?_
        refine h_lcmp_ne (tgt := 126) hC dL_law_103 dL_law_104 (by decide) (fun _ => ?_) (fun _ => ?_)
        · refine h_aload_n hC 1 dL_law_107 rfl rfl ?_
          refine h_iconst hC (v := 0) dL_law_108 (by decide) ?_
          refine h_iload hC 5 dL_law_109 rfl ?_
          refine h_iconst hC (v := 0) dL_law_111 (by decide) ?_
          refine h_callW (n := 4) hC [.ref (zad Z 0), .int 0, .int a5, .int 0] hNc (c_L_join hfl Z M3 0 a5 0) lk_L_235 mw_L_join.1 mw_L_join.2.1 mw_L_join.2.2 ⟨by decide, by decide, by decide +kernel⟩ rfl rfl ⟨by decide, by decide⟩ rfl rfl (Nat.le_of_ble_eq_true rfl) (show (kk + 8) + 4 ≤ 600104 from by omega) (show 6 * ((kk + 8) + 4) ≤ 7301313 from by omega) dL_law_112 (fun x6 M5 => ?_)
          refine h_ldc2 hC (v := (-9000000000000000003)) lc_L_21 dL_law_115 ?_
          refine h_lcmp_ne (tgt := 126) hC dL_law_118 dL_law_119 (by decide) (fun _ => ?_) (fun _ => ?_)
          · refine h_iconst hC (v := 1) dL_law_122 (by decide) ?_
            refine h_goto (tgt := 127) hC dL_law_123 (by decide) ?_
            refine h_istore hC (lv1 := [(4, .int 1), (0, .ref b), (1, .ref (zad Z 0)), (2, .ref (zad Z 146)), (3, .int a3), (5, .int a5)]) dL_law_127 (by decide) rfl ?_
            refine h_iinc hC 5 (v := 1) (fun x7 => [(5, .int x7), (4, .int 1), (0, .ref b), (1, .ref (zad Z 0)), (2, .ref (zad Z 146)), (3, .int a3)]) dL_law_129 rfl (by decide) (by decide) (fun _ => rfl) (fun x7 => ?_)
            refine h_goto (tgt := 53) hC dL_law_132 (by decide) ?_
            refine h_sub (lv1 := [(0, .ref b), (1, .ref (zad Z 0)), (2, .ref (zad Z 146)), (3, .int a3), (4, .int 1), (5, .int x7)]) [2, 3, 4, 5, 1, 0] rfl ?_
            refine h_widen (k1 := kk + 12) (by omega) ?_
            exact hs53 M5 a3 1 x7
          · refine h_iconst hC (v := 0) dL_law_126 (by decide) ?_
            refine h_istore hC (lv1 := [(4, .int 0), (0, .ref b), (1, .ref (zad Z 0)), (2, .ref (zad Z 146)), (3, .int a3), (5, .int a5)]) dL_law_127 (by decide) rfl ?_
            refine h_iinc hC 5 (v := 1) (fun x8 => [(5, .int x8), (4, .int 0), (0, .ref b), (1, .ref (zad Z 0)), (2, .ref (zad Z 146)), (3, .int a3)]) dL_law_129 rfl (by decide) (by decide) (fun _ => rfl) (fun x8 => ?_)
            refine h_goto (tgt := 53) hC dL_law_132 (by decide) ?_
            refine h_sub (lv1 := [(0, .ref b), (1, .ref (zad Z 0)), (2, .ref (zad Z 146)), (3, .int a3), (4, .int 0), (5, .int x8)]) [2, 3, 4, 5, 1, 0] rfl ?_
            refine h_widen (k1 := kk + 12) (by omega) ?_
            exact hs53 M5 a3 0 x8
        · refine h_iconst hC (v := 0) dL_law_126 (by decide) ?_
          refine h_istore hC (lv1 := [(4, .int 0), (0, .ref b), (1, .ref (zad Z 0)), (2, .ref (zad Z 146)), (3, .int a3), (5, .int a5)]) dL_law_127 (by decide) rfl ?_
          refine h_iinc hC 5 (v := 1) (fun x9 => [(5, .int x9), (4, .int 0), (0, .ref b), (1, .ref (zad Z 0)), (2, .ref (zad Z 146)), (3, .int a3)]) dL_law_129 rfl (by decide) (by decide) (fun _ => rfl) (fun x9 => ?_)
          refine h_goto (tgt := 53) hC dL_law_132 (by decide) ?_
          refine h_sub (lv1 := [(0, .ref b), (1, .ref (zad Z 0)), (2, .ref (zad Z 146)), (3, .int a3), (4, .int 0), (5, .int x9)]) [2, 3, 4, 5, 1, 0] rfl ?_
          refine h_widen (k1 := kk + 12) (by omega) ?_
          exact hs53 M3 a3 0 x9
      · refine h_iconst hC (v := 0) dL_law_126 (by decide) ?_
        refine h_istore hC (lv1 := [(4, .int 0), (0, .ref b), (1, .ref (zad Z 0)), (2, .ref (zad Z 146)), (3, .int a3), (5, .int a5)]) dL_law_127 (by decide) rfl ?_
        refine h_iinc hC 5 (v := 1) (fun x10 => [(5, .int x10), (4, .int 0), (0, .ref b), (1, .ref (zad Z 0)), (2, .ref (zad Z 146)), (3, .int a3)]) dL_law_129 rfl (by decide) (by decide) (fun _ => rfl) (fun x10 => ?_)
        refine h_goto (tgt := 53) hC dL_law_132 (by decide) ?_
        refine h_sub (lv1 := [(0, .ref b), (1, .ref (zad Z 0)), (2, .ref (zad Z 146)), (3, .int a3), (4, .int 0), (5, .int x10)]) [2, 3, 4, 5, 1, 0] rfl ?_
        refine h_widen (k1 := kk + 12) (by omega) ?_
        exact hs53 M1 a3 0 x10
set_option maxRecDepth 20000 in
set_option maxHeartbeats 4000000 in
theorem g_L_law_l53 {p : Program} {l : Launch} {e : Env} {s : State} {m : MethodId} {below : List Frame} {meth : Method} {c : Code} {Z : gZ} {Q : State → Prop} {b L : Nat} {xs : Nat → Int32} {D : Int32 → Int32} (hfl : l.stackTraces = false) (hC : gD p s m #[Value.ref b] c cL_law 14 RL Z) (hNc : gNc s) (hL : L ≤ 260) (hX : va_X b L xs s s.heap) (hbl : b < s.heap.size) (hbA : ¬ zA Z b) (hdr : ∀ x, D x = drw L xs x) (hend : ∀ (k : Nat) (M : gM) (lv : List (Nat × Value)), k ≤ 33146 → gV p l e room_1 s m #[Value.ref b] below meth c 14 Z Q k M 930 lv [.int 1]) : ∀ (n kk : Nat), kk + n * 12 ≤ 4191 → ∀ (M : gM) (a3 : Int32) (a4 : Int32) (a5 : Int32), gY p l e room_1 s m #[Value.ref b] below meth c 14 Z (fun _ => Q) kk M 53 [(0, .ref b), (1, .ref (zad Z 0)), (2, .ref (zad Z 146)), (3, .int a3), (4, .int a4), (5, .int a5)] [] (f_L_law_l53 D n M a3 a4 a5)
  | 0, _, _, _, _, _, _ => h_stuck
  | n + 1, kk, hk, M, a3, a4, a5 => g_L_law_lb53 hfl hC hNc hL hX hbl hbA hdr hend (by omega) (g_L_law_l53 hfl hC hNc hL hX hbl hbA hdr hend n (kk + 12) (by omega)) M a3 a4 a5
set_option maxRecDepth 20000 in
set_option maxHeartbeats 4000000 in
theorem g_L_law_b48 {p : Program} {l : Launch} {e : Env} {s : State} {m : MethodId} {below : List Frame} {meth : Method} {c : Code} {Z : gZ} {Q : State → Prop} {b L : Nat} {xs : Nat → Int32} {D : Int32 → Int32} (hfl : l.stackTraces = false) (hC : gD p s m #[Value.ref b] c cL_law 14 RL Z) (hNc : gNc s) (hL : L ≤ 260) (hX : va_X b L xs s s.heap) (hbl : b < s.heap.size) (hbA : ¬ zA Z b) (hdr : ∀ x, D x = drw L xs x) (hend : ∀ (k : Nat) (M : gM) (lv : List (Nat × Value)), k ≤ 33146 → gV p l e room_1 s m #[Value.ref b] below meth c 14 Z Q k M 930 lv [.int 1]) (M : gM) (a3 : Int32) (t0 : Int32) : gY p l e room_1 s m #[Value.ref b] below meth c 14 Z (fun _ => Q) 4107 M 48 [(0, .ref b), (1, .ref (zad Z 0)), (2, .ref (zad Z 146)), (3, .int a3)] [.int t0] (f_L_law_b48 D M a3 t0) := by
  unfold f_L_law_b48
  refine h_istore hC (lv1 := [(4, .int t0), (0, .ref b), (1, .ref (zad Z 0)), (2, .ref (zad Z 146)), (3, .int a3)]) dL_law_48 (by decide) rfl ?_
  refine h_iconst hC (v := 0) dL_law_50 (by decide) ?_
  refine h_istore hC (lv1 := [(5, .int 0), (4, .int t0), (0, .ref b), (1, .ref (zad Z 0)), (2, .ref (zad Z 146)), (3, .int a3)]) dL_law_51 (by decide) rfl ?_
  refine h_sub (lv1 := [(0, .ref b), (1, .ref (zad Z 0)), (2, .ref (zad Z 146)), (3, .int a3), (4, .int t0), (5, .int 0)]) [2, 3, 4, 5, 1, 0] rfl ?_
  refine h_widen (k1 := 4107) (Nat.le_of_ble_eq_true rfl) ?_
  exact g_L_law_l53 hfl hC hNc hL hX hbl hbA hdr hend 7 4107 (Nat.le_of_ble_eq_true rfl) M a3 t0 0
set_option maxRecDepth 20000 in
set_option maxHeartbeats 4000000 in
theorem g_L_law_b47 {p : Program} {l : Launch} {e : Env} {s : State} {m : MethodId} {below : List Frame} {meth : Method} {c : Code} {Z : gZ} {Q : State → Prop} {b L : Nat} {xs : Nat → Int32} {D : Int32 → Int32} (hfl : l.stackTraces = false) (hC : gD p s m #[Value.ref b] c cL_law 14 RL Z) (hNc : gNc s) (hL : L ≤ 260) (hX : va_X b L xs s s.heap) (hbl : b < s.heap.size) (hbA : ¬ zA Z b) (hdr : ∀ x, D x = drw L xs x) (hend : ∀ (k : Nat) (M : gM) (lv : List (Nat × Value)), k ≤ 33146 → gV p l e room_1 s m #[Value.ref b] below meth c 14 Z Q k M 930 lv [.int 1]) (M : gM) (a3 : Int32) : gY p l e room_1 s m #[Value.ref b] below meth c 14 Z (fun _ => Q) 4107 M 47 [(0, .ref b), (1, .ref (zad Z 0)), (2, .ref (zad Z 146)), (3, .int a3)] [] (f_L_law_b47 D M a3) := by
  unfold f_L_law_b47
  refine h_iconst hC (v := 0) dL_law_47 (by decide) ?_
  exact g_L_law_b48 hfl hC hNc hL hX hbl hbA hdr hend M a3 0
set_option maxRecDepth 20000 in
set_option maxHeartbeats 4000000 in
theorem c_L_law {p : Program} {l : Launch} {e : Env} {s : State} {m : MethodId} {below : List Frame} {meth : Method} {c : Code} {Z : gZ} {Q : State → Prop} {b L : Nat} {xs : Nat → Int32} {D : Int32 → Int32} (hfl : l.stackTraces = false) (hC : gD p s m #[Value.ref b] c cL_law 14 RL Z) (hNc : gNc s) (hL : L ≤ 260) (hX : va_X b L xs s s.heap) (hbl : b < s.heap.size) (hbA : ¬ zA Z b) (hdr : ∀ x, D x = drw L xs x) (hend : ∀ (k : Nat) (M : gM) (lv : List (Nat × Value)), k ≤ 33146 → gV p l e room_1 s m #[Value.ref b] below meth c 14 Z Q k M 930 lv [.int 1]) (M : gM) (a3 : Int32) : gY p l e room_1 s m #[Value.ref b] below meth c 14 Z (fun _ => Q) 4000 M 15 [(3, .int a3), (2, .ref (zad Z 146)), (1, .ref (zad Z 0)), (0, .ref b)] [] (f_L_law D M a3) := by
  unfold f_L_law
  refine h_aload_n hC 2 dL_law_15 rfl rfl ?_
  refine h_iconst hC (v := 0) dL_law_16 (by decide) ?_
  refine h_callB (n := 2) hC [.ref (zad Z 0), .int 0] hNc (c_L_refuses hfl Z M 0) lk_L_311 mw_L_refuses.1 mw_L_refuses.2.1 mw_L_refuses.2.2 ⟨by decide, by decide, by decide +kernel⟩ rfl rfl ⟨by decide, by decide⟩ rfl rfl (Nat.le_of_ble_eq_true rfl) (Nat.le_of_ble_eq_true rfl) (Nat.le_of_ble_eq_true rfl) dL_law_17 (fun x2 M1 => ?_)
  refine h_if_eq (tgt := 47) hC dL_law_20 (by decide) (fun _ => ?_) (fun _ => ?_)
  · refine h_sub (lv1 := [(0, .ref b), (1, .ref (zad Z 0)), (2, .ref (zad Z 146)), (3, .int a3)]) [3, 2, 1, 0] rfl ?_
    refine h_widen (k1 := 4107) (Nat.le_of_ble_eq_true rfl) ?_
    exact g_L_law_b47 hfl hC hNc hL hX hbl hbA hdr hend M1 a3
  · refine h_aload_n hC 2 dL_law_23 rfl rfl ?_
    refine h_iconst hC (v := 0) dL_law_24 (by decide) ?_
    refine h_callW (n := 2) hC [.ref (zad Z 0), .int 0] hNc (c_L_open hfl Z M1 0) lk_L_233 mw_L_open.1 mw_L_open.2.1 mw_L_open.2.2 ⟨by decide, by decide, by decide +kernel⟩ rfl rfl ⟨by decide, by decide⟩ rfl rfl (Nat.le_of_ble_eq_true rfl) (Nat.le_of_ble_eq_true rfl) (Nat.le_of_ble_eq_true rfl) dL_law_25 (fun x4 M3 => ?_)
    refine h_lconst hC (v := 0) dL_law_28 (by decide) ?_
    refine h_lcmp_ne (tgt := 47) hC dL_law_29 dL_law_30 (by decide) (fun _ => ?_) (fun _ => ?_)
    · refine h_aload_n hC 2 dL_law_33 rfl rfl ?_
      refine h_iconst hC (v := 1) dL_law_34 (by decide) ?_
      refine h_callW (n := 2) hC [.ref (zad Z 0), .int 1] hNc (c_L_open hfl Z M3 1) lk_L_233 mw_L_open.1 mw_L_open.2.1 mw_L_open.2.2 ⟨by decide, by decide, by decide +kernel⟩ rfl rfl ⟨by decide, by decide⟩ rfl rfl (Nat.le_of_ble_eq_true rfl) (Nat.le_of_ble_eq_true rfl) (Nat.le_of_ble_eq_true rfl) dL_law_35 (fun x6 M5 => ?_)
      refine h_lconst hC (v := 1) dL_law_38 (by decide) ?_
      refine h_lcmp_ne (tgt := 47) hC dL_law_39 dL_law_40 (by decide) (fun _ => ?_) (fun _ => ?_)
      · refine h_iconst hC (v := 1) dL_law_43 (by decide) ?_
        refine h_goto (tgt := 48) hC dL_law_44 (by decide) ?_
        refine h_sub (lv1 := [(0, .ref b), (1, .ref (zad Z 0)), (2, .ref (zad Z 146)), (3, .int a3)]) [3, 2, 1, 0] rfl ?_
        exact g_L_law_b48 hfl hC hNc hL hX hbl hbA hdr hend M5 a3 1
      · refine h_sub (lv1 := [(0, .ref b), (1, .ref (zad Z 0)), (2, .ref (zad Z 146)), (3, .int a3)]) [3, 2, 1, 0] rfl ?_
        exact g_L_law_b47 hfl hC hNc hL hX hbl hbA hdr hend M5 a3
    · refine h_sub (lv1 := [(0, .ref b), (1, .ref (zad Z 0)), (2, .ref (zad Z 146)), (3, .int a3)]) [3, 2, 1, 0] rfl ?_
      refine h_widen (k1 := 4107) (Nat.le_of_ble_eq_true rfl) ?_
      exact g_L_law_b47 hfl hC hNc hL hX hbl hbA hdr hend M3 a3
