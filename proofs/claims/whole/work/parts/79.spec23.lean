theorem lws_8 (n : Int) (f : Int → Int) : lws n f 8 = bi (ful n f) + 2 * bi (lna n f 0 (lsum n f 0 0)) + 4 * bi (lna n f 1 (lsum n f 0 0)) + 8 * bi (dia n f (lsum n f 0 0)) + 16 * bi (lna n f 2 (lsum n f 0 0) ∧ lna n f 3 (lsum n f 0 0)) + 32 * bi (opo n f) + 64 * bi (nrm n f) + 128 * bi (pwr n f) := by
  have e : lws n f 8 = 0 + 1 * bi (lwV n f 1) + 2 * bi (lwV n f 2) + 4 * bi (lwV n f 4) + 8 * bi (lwV n f 8) + 16 * bi (lwV n f 16) + 32 * bi (lwV n f 32) + 64 * bi (lwV n f 64) + 128 * bi (lwV n f 128) := rfl
  rw [e, bi_c (lwV_1 n f), bi_c (lwV_2 n f), bi_c (lwV_4 n f), bi_c (lwV_8 n f), bi_c (lwV_16 n f), bi_c (lwV_32 n f), bi_c (lwV_64 n f), bi_c (lwV_128 n f)]
  omega
