theorem pk_w0 {K : c_S} {q : Nat} {v : Int32} : p_k (cs_I K 1400 q v) q = qs_1 (p_k K q) 0 v := pk_w (m := 0) (by decide)
theorem pk_v0 {K : c_S} {q : Nat} : p_k K q 0 = c_I K 1400 q := rfl
theorem pk_w1 {K : c_S} {q : Nat} {v : Int32} : p_k (cs_I K 1401 q v) q = qs_1 (p_k K q) 1 v := pk_w (m := 1) (by decide)
theorem pk_v1 {K : c_S} {q : Nat} : p_k K q 1 = c_I K 1401 q := rfl
theorem pk_w2 {K : c_S} {q : Nat} {v : Int32} : p_k (cs_I K 1402 q v) q = qs_1 (p_k K q) 2 v := pk_w (m := 2) (by decide)
theorem pk_v2 {K : c_S} {q : Nat} : p_k K q 2 = c_I K 1402 q := rfl
theorem pk_w3 {K : c_S} {q : Nat} {v : Int32} : p_k (cs_I K 1403 q v) q = qs_1 (p_k K q) 3 v := pk_w (m := 3) (by decide)
theorem pk_v3 {K : c_S} {q : Nat} : p_k K q 3 = c_I K 1403 q := rfl
theorem pk_w4 {K : c_S} {q : Nat} {v : Int32} : p_k (cs_I K 1404 q v) q = qs_1 (p_k K q) 4 v := pk_w (m := 4) (by decide)
theorem pk_v4 {K : c_S} {q : Nat} : p_k K q 4 = c_I K 1404 q := rfl
theorem pk_w5 {K : c_S} {q : Nat} {v : Int32} : p_k (cs_I K 1405 q v) q = qs_1 (p_k K q) 5 v := pk_w (m := 5) (by decide)
theorem pk_v5 {K : c_S} {q : Nat} : p_k K q 5 = c_I K 1405 q := rfl
theorem pk_w6 {K : c_S} {q : Nat} {v : Int32} : p_k (cs_I K 1406 q v) q = qs_1 (p_k K q) 6 v := pk_w (m := 6) (by decide)
theorem pk_v6 {K : c_S} {q : Nat} : p_k K q 6 = c_I K 1406 q := rfl
theorem pk_w7 {K : c_S} {q : Nat} {v : Int32} : p_k (cs_I K 1407 q v) q = qs_1 (p_k K q) 7 v := pk_w (m := 7) (by decide)
theorem pk_v7 {K : c_S} {q : Nat} : p_k K q 7 = c_I K 1407 q := rfl
theorem pk_w8 {K : c_S} {q : Nat} {v : Int32} : p_k (cs_I K 1408 q v) q = qs_1 (p_k K q) 8 v := pk_w (m := 8) (by decide)
theorem pk_v8 {K : c_S} {q : Nat} : p_k K q 8 = c_I K 1408 q := rfl
theorem pk_w9 {K : c_S} {q : Nat} {v : Int32} : p_k (cs_I K 1409 q v) q = qs_1 (p_k K q) 9 v := pk_w (m := 9) (by decide)
theorem pk_v9 {K : c_S} {q : Nat} : p_k K q 9 = c_I K 1409 q := rfl
theorem pk_w10 {K : c_S} {q : Nat} {v : Int32} : p_k (cs_I K 1410 q v) q = qs_1 (p_k K q) 10 v := pk_w (m := 10) (by decide)
theorem pk_v10 {K : c_S} {q : Nat} : p_k K q 10 = c_I K 1410 q := rfl
theorem pk_w11 {K : c_S} {q : Nat} {v : Int32} : p_k (cs_I K 1411 q v) q = qs_1 (p_k K q) 11 v := pk_w (m := 11) (by decide)
theorem pk_v11 {K : c_S} {q : Nat} : p_k K q 11 = c_I K 1411 q := rfl
theorem pk_w12 {K : c_S} {q : Nat} {v : Int32} : p_k (cs_I K 1412 q v) q = qs_1 (p_k K q) 12 v := pk_w (m := 12) (by decide)
theorem pk_v12 {K : c_S} {q : Nat} : p_k K q 12 = c_I K 1412 q := rfl
theorem pk_w13 {K : c_S} {q : Nat} {v : Int32} : p_k (cs_I K 1413 q v) q = qs_1 (p_k K q) 13 v := pk_w (m := 13) (by decide)
theorem pk_v13 {K : c_S} {q : Nat} : p_k K q 13 = c_I K 1413 q := rfl
theorem pk_w14 {K : c_S} {q : Nat} {v : Int32} : p_k (cs_I K 1414 q v) q = qs_1 (p_k K q) 14 v := pk_w (m := 14) (by decide)
theorem pk_v14 {K : c_S} {q : Nat} : p_k K q 14 = c_I K 1414 q := rfl
theorem pk_w15 {K : c_S} {q : Nat} {v : Int32} : p_k (cs_I K 1415 q v) q = qs_1 (p_k K q) 15 v := pk_w (m := 15) (by decide)
theorem pk_v15 {K : c_S} {q : Nat} : p_k K q 15 = c_I K 1415 q := rfl
theorem pk_w16 {K : c_S} {q : Nat} {v : Int32} : p_k (cs_I K 1416 q v) q = qs_1 (p_k K q) 16 v := pk_w (m := 16) (by decide)
theorem pk_v16 {K : c_S} {q : Nat} : p_k K q 16 = c_I K 1416 q := rfl
theorem pk_w17 {K : c_S} {q : Nat} {v : Int32} : p_k (cs_I K 1417 q v) q = qs_1 (p_k K q) 17 v := pk_w (m := 17) (by decide)
theorem pk_v17 {K : c_S} {q : Nat} : p_k K q 17 = c_I K 1417 q := rfl
theorem pk_w18 {K : c_S} {q : Nat} {v : Int32} : p_k (cs_I K 1418 q v) q = qs_1 (p_k K q) 18 v := pk_w (m := 18) (by decide)
theorem pk_v18 {K : c_S} {q : Nat} : p_k K q 18 = c_I K 1418 q := rfl
theorem pk_w19 {K : c_S} {q : Nat} {v : Int32} : p_k (cs_I K 1419 q v) q = qs_1 (p_k K q) 19 v := pk_w (m := 19) (by decide)
theorem pk_v19 {K : c_S} {q : Nat} : p_k K q 19 = c_I K 1419 q := rfl
theorem pr_w0 {R : r_S} {q : Nat} {v : Int32} : p_r (rs_A R 2467 q v) q = qs_1 (p_r R q) 0 v := pr_w (m := 0) (by decide)
theorem pr_v0 {R : r_S} {q : Nat} : p_r R q 0 = r_A R 2467 q := rfl
theorem pr_w1 {R : r_S} {q : Nat} {v : Int32} : p_r (rs_A R 2468 q v) q = qs_1 (p_r R q) 1 v := pr_w (m := 1) (by decide)
theorem pr_v1 {R : r_S} {q : Nat} : p_r R q 1 = r_A R 2468 q := rfl
theorem pr_w2 {R : r_S} {q : Nat} {v : Int32} : p_r (rs_A R 2469 q v) q = qs_1 (p_r R q) 2 v := pr_w (m := 2) (by decide)
theorem pr_v2 {R : r_S} {q : Nat} : p_r R q 2 = r_A R 2469 q := rfl
theorem pr_w3 {R : r_S} {q : Nat} {v : Int32} : p_r (rs_A R 2470 q v) q = qs_1 (p_r R q) 3 v := pr_w (m := 3) (by decide)
theorem pr_v3 {R : r_S} {q : Nat} : p_r R q 3 = r_A R 2470 q := rfl
theorem pr_w4 {R : r_S} {q : Nat} {v : Int32} : p_r (rs_A R 2471 q v) q = qs_1 (p_r R q) 4 v := pr_w (m := 4) (by decide)
theorem pr_v4 {R : r_S} {q : Nat} : p_r R q 4 = r_A R 2471 q := rfl
theorem pr_w5 {R : r_S} {q : Nat} {v : Int32} : p_r (rs_A R 2472 q v) q = qs_1 (p_r R q) 5 v := pr_w (m := 5) (by decide)
theorem pr_v5 {R : r_S} {q : Nat} : p_r R q 5 = r_A R 2472 q := rfl
theorem pr_w6 {R : r_S} {q : Nat} {v : Int32} : p_r (rs_A R 2473 q v) q = qs_1 (p_r R q) 6 v := pr_w (m := 6) (by decide)
theorem pr_v6 {R : r_S} {q : Nat} : p_r R q 6 = r_A R 2473 q := rfl
theorem pr_w7 {R : r_S} {q : Nat} {v : Int32} : p_r (rs_A R 2474 q v) q = qs_1 (p_r R q) 7 v := pr_w (m := 7) (by decide)
theorem pr_v7 {R : r_S} {q : Nat} : p_r R q 7 = r_A R 2474 q := rfl
theorem pr_w8 {R : r_S} {q : Nat} {v : Int32} : p_r (rs_A R 2475 q v) q = qs_1 (p_r R q) 8 v := pr_w (m := 8) (by decide)
theorem pr_v8 {R : r_S} {q : Nat} : p_r R q 8 = r_A R 2475 q := rfl
theorem pr_w9 {R : r_S} {q : Nat} {v : Int32} : p_r (rs_A R 2476 q v) q = qs_1 (p_r R q) 9 v := pr_w (m := 9) (by decide)
theorem pr_v9 {R : r_S} {q : Nat} : p_r R q 9 = r_A R 2476 q := rfl
theorem pr_w11 {R : r_S} {q : Nat} {v : Int32} : p_r (rs_A R 2478 q v) q = qs_1 (p_r R q) 11 v := pr_w (m := 11) (by decide)
theorem pr_v11 {R : r_S} {q : Nat} : p_r R q 11 = r_A R 2478 q := rfl
theorem pr_w12 {R : r_S} {q : Nat} {v : Int32} : p_r (rs_A R 2479 q v) q = qs_1 (p_r R q) 12 v := pr_w (m := 12) (by decide)
theorem pr_v12 {R : r_S} {q : Nat} : p_r R q 12 = r_A R 2479 q := rfl
theorem pr_w13 {R : r_S} {q : Nat} {v : Int32} : p_r (rs_A R 2480 q v) q = qs_1 (p_r R q) 13 v := pr_w (m := 13) (by decide)
theorem pr_v13 {R : r_S} {q : Nat} : p_r R q 13 = r_A R 2480 q := rfl
theorem pr_w14 {R : r_S} {q : Nat} {v : Int32} : p_r (rs_A R 2481 q v) q = qs_1 (p_r R q) 14 v := pr_w (m := 14) (by decide)
theorem pr_v14 {R : r_S} {q : Nat} : p_r R q 14 = r_A R 2481 q := rfl
theorem pr_w15 {R : r_S} {q : Nat} {v : Int32} : p_r (rs_A R 2482 q v) q = qs_1 (p_r R q) 15 v := pr_w (m := 15) (by decide)
theorem pr_v15 {R : r_S} {q : Nat} : p_r R q 15 = r_A R 2482 q := rfl
