/-! decode rows -/
theorem d_Model_init_551 : decode b_Model_init 551 = .ok (.iastore, 1) := by decide +kernel
theorem d_Model_init_552 : decode b_Model_init 552 = .ok (.dup, 1) := by decide +kernel
theorem d_Model_init_553 : decode b_Model_init 553 = .ok (.bipush 9, 2) := by decide +kernel
theorem d_Model_init_555 : decode b_Model_init 555 = .ok (.bipush 112, 2) := by decide +kernel
theorem d_Model_init_557 : decode b_Model_init 557 = .ok (.iastore, 1) := by decide +kernel
theorem d_Model_init_558 : decode b_Model_init 558 = .ok (.dup, 1) := by decide +kernel
theorem d_Model_init_559 : decode b_Model_init 559 = .ok (.bipush 10, 2) := by decide +kernel
theorem d_Model_init_561 : decode b_Model_init 561 = .ok (.bipush 101, 2) := by decide +kernel
theorem d_Model_init_563 : decode b_Model_init 563 = .ok (.iastore, 1) := by decide +kernel
theorem d_Model_init_564 : decode b_Model_init 564 = .ok (.dup, 1) := by decide +kernel
theorem d_Model_init_565 : decode b_Model_init 565 = .ok (.bipush 11, 2) := by decide +kernel
theorem d_Model_init_567 : decode b_Model_init 567 = .ok (.bipush 110, 2) := by decide +kernel
theorem d_Model_init_569 : decode b_Model_init 569 = .ok (.iastore, 1) := by decide +kernel
theorem d_Model_init_570 : decode b_Model_init 570 = .ok (.dup, 1) := by decide +kernel
theorem d_Model_init_571 : decode b_Model_init 571 = .ok (.bipush 12, 2) := by decide +kernel
theorem d_Model_init_573 : decode b_Model_init 573 = .ok (.bipush 100, 2) := by decide +kernel
theorem d_Model_init_575 : decode b_Model_init 575 = .ok (.iastore, 1) := by decide +kernel
theorem d_Model_init_576 : decode b_Model_init 576 = .ok (.dup, 1) := by decide +kernel
theorem d_Model_init_577 : decode b_Model_init 577 = .ok (.bipush 13, 2) := by decide +kernel
theorem d_Model_init_579 : decode b_Model_init 579 = .ok (.bipush 115, 2) := by decide +kernel
theorem d_Model_init_581 : decode b_Model_init 581 = .ok (.iastore, 1) := by decide +kernel
theorem d_Model_init_582 : decode b_Model_init 582 = .ok (.dup, 1) := by decide +kernel
theorem d_Model_init_583 : decode b_Model_init 583 = .ok (.bipush 14, 2) := by decide +kernel
theorem d_Model_init_585 : decode b_Model_init 585 = .ok (.bipush 32, 2) := by decide +kernel
theorem d_Model_init_587 : decode b_Model_init 587 = .ok (.iastore, 1) := by decide +kernel
theorem d_Model_init_588 : decode b_Model_init 588 = .ok (.dup, 1) := by decide +kernel
theorem d_Model_init_589 : decode b_Model_init 589 = .ok (.bipush 15, 2) := by decide +kernel
theorem d_Model_init_591 : decode b_Model_init 591 = .ok (.bipush 32, 2) := by decide +kernel
theorem d_Model_init_593 : decode b_Model_init 593 = .ok (.iastore, 1) := by decide +kernel
theorem d_Model_init_594 : decode b_Model_init 594 = .ok (.dup, 1) := by decide +kernel
theorem d_Model_init_595 : decode b_Model_init 595 = .ok (.bipush 16, 2) := by decide +kernel
theorem d_Model_init_597 : decode b_Model_init 597 = .ok (.bipush 104, 2) := by decide +kernel
theorem d_Model_init_599 : decode b_Model_init 599 = .ok (.iastore, 1) := by decide +kernel
theorem d_Model_init_600 : decode b_Model_init 600 = .ok (.dup, 1) := by decide +kernel
theorem d_Model_init_601 : decode b_Model_init 601 = .ok (.bipush 17, 2) := by decide +kernel
theorem d_Model_init_603 : decode b_Model_init 603 = .ok (.bipush 117, 2) := by decide +kernel
theorem d_Model_init_605 : decode b_Model_init 605 = .ok (.iastore, 1) := by decide +kernel
theorem d_Model_init_606 : decode b_Model_init 606 = .ok (.dup, 1) := by decide +kernel
theorem d_Model_init_607 : decode b_Model_init 607 = .ok (.bipush 18, 2) := by decide +kernel
theorem d_Model_init_609 : decode b_Model_init 609 = .ok (.bipush 114, 2) := by decide +kernel
theorem d_Model_init_611 : decode b_Model_init 611 = .ok (.iastore, 1) := by decide +kernel
theorem d_Model_init_612 : decode b_Model_init 612 = .ok (.dup, 1) := by decide +kernel
theorem d_Model_init_613 : decode b_Model_init 613 = .ok (.bipush 19, 2) := by decide +kernel
theorem d_Model_init_615 : decode b_Model_init 615 = .ok (.bipush 116, 2) := by decide +kernel
theorem d_Model_init_617 : decode b_Model_init 617 = .ok (.iastore, 1) := by decide +kernel
theorem d_Model_init_618 : decode b_Model_init 618 = .ok (.dup, 1) := by decide +kernel
theorem d_Model_init_619 : decode b_Model_init 619 = .ok (.bipush 20, 2) := by decide +kernel
theorem d_Model_init_621 : decode b_Model_init 621 = .ok (.bipush 115, 2) := by decide +kernel
theorem d_Model_init_623 : decode b_Model_init 623 = .ok (.iastore, 1) := by decide +kernel
theorem d_Model_init_624 : decode b_Model_init 624 = .ok (.dup, 1) := by decide +kernel
theorem d_Model_init_625 : decode b_Model_init 625 = .ok (.bipush 21, 2) := by decide +kernel
theorem d_Model_init_627 : decode b_Model_init 627 = .ok (.bipush 32, 2) := by decide +kernel
theorem d_Model_init_629 : decode b_Model_init 629 = .ok (.iastore, 1) := by decide +kernel
theorem d_Model_init_630 : decode b_Model_init 630 = .ok (.dup, 1) := by decide +kernel
theorem d_Model_init_631 : decode b_Model_init 631 = .ok (.bipush 22, 2) := by decide +kernel
theorem d_Model_init_633 : decode b_Model_init 633 = .ok (.bipush 32, 2) := by decide +kernel
theorem d_Model_init_635 : decode b_Model_init 635 = .ok (.iastore, 1) := by decide +kernel
theorem d_Model_init_636 : decode b_Model_init 636 = .ok (.dup, 1) := by decide +kernel
theorem d_Model_init_637 : decode b_Model_init 637 = .ok (.bipush 23, 2) := by decide +kernel
theorem d_Model_init_639 : decode b_Model_init 639 = .ok (.bipush 32, 2) := by decide +kernel
theorem d_Model_init_641 : decode b_Model_init 641 = .ok (.iastore, 1) := by decide +kernel
theorem d_Model_init_642 : decode b_Model_init 642 = .ok (.dup, 1) := by decide +kernel
theorem d_Model_init_643 : decode b_Model_init 643 = .ok (.bipush 24, 2) := by decide +kernel
theorem d_Model_init_645 : decode b_Model_init 645 = .ok (.bipush 116, 2) := by decide +kernel
theorem d_Model_init_647 : decode b_Model_init 647 = .ok (.iastore, 1) := by decide +kernel
theorem d_Model_init_648 : decode b_Model_init 648 = .ok (.dup, 1) := by decide +kernel
theorem d_Model_init_649 : decode b_Model_init 649 = .ok (.bipush 25, 2) := by decide +kernel
theorem d_Model_init_651 : decode b_Model_init 651 = .ok (.bipush 111, 2) := by decide +kernel
theorem d_Model_init_653 : decode b_Model_init 653 = .ok (.iastore, 1) := by decide +kernel
theorem d_Model_init_654 : decode b_Model_init 654 = .ok (.dup, 1) := by decide +kernel
theorem d_Model_init_655 : decode b_Model_init 655 = .ok (.bipush 26, 2) := by decide +kernel
theorem d_Model_init_657 : decode b_Model_init 657 = .ok (.bipush 108, 2) := by decide +kernel
theorem d_Model_init_659 : decode b_Model_init 659 = .ok (.iastore, 1) := by decide +kernel
theorem d_Model_init_660 : decode b_Model_init 660 = .ok (.dup, 1) := by decide +kernel
theorem d_Model_init_661 : decode b_Model_init 661 = .ok (.bipush 27, 2) := by decide +kernel
theorem d_Model_init_663 : decode b_Model_init 663 = .ok (.bipush 100, 2) := by decide +kernel
theorem d_Model_init_665 : decode b_Model_init 665 = .ok (.iastore, 1) := by decide +kernel
theorem d_Model_init_666 : decode b_Model_init 666 = .ok (.dup, 1) := by decide +kernel
theorem d_Model_init_667 : decode b_Model_init 667 = .ok (.bipush 28, 2) := by decide +kernel
theorem d_Model_init_669 : decode b_Model_init 669 = .ok (.bipush 32, 2) := by decide +kernel
theorem d_Model_init_671 : decode b_Model_init 671 = .ok (.iastore, 1) := by decide +kernel
theorem d_Model_init_672 : decode b_Model_init 672 = .ok (.dup, 1) := by decide +kernel
theorem d_Model_init_673 : decode b_Model_init 673 = .ok (.bipush 29, 2) := by decide +kernel
theorem d_Model_init_675 : decode b_Model_init 675 = .ok (.bipush 32, 2) := by decide +kernel
theorem d_Model_init_677 : decode b_Model_init 677 = .ok (.iastore, 1) := by decide +kernel
theorem d_Model_init_678 : decode b_Model_init 678 = .ok (.dup, 1) := by decide +kernel
theorem d_Model_init_679 : decode b_Model_init 679 = .ok (.bipush 30, 2) := by decide +kernel
theorem d_Model_init_681 : decode b_Model_init 681 = .ok (.bipush 32, 2) := by decide +kernel
theorem d_Model_init_683 : decode b_Model_init 683 = .ok (.iastore, 1) := by decide +kernel
theorem d_Model_init_684 : decode b_Model_init 684 = .ok (.dup, 1) := by decide +kernel
