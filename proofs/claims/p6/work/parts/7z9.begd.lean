theorem hy_473 : hz hh_473.2.1 := hz_row hy_471
theorem hy_475 : hz hh_475.2.1 := hz_row hy_473
theorem hy_477 : hz hh_477.2.1 := hz_row hy_475
theorem hy_479 : hz hh_479.2.1 := hz_row hy_477
theorem hy_481 : hz hh_481.2.1 := hz_row hy_479
theorem hy_483 : hz hh_483.2.1 := hz_row hy_481
theorem hy_485 : hz hh_485.2.1 := hz_row hy_483
theorem hy_487 : hz hh_487.2.1 := hz_row hy_485
