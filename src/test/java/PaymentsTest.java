/** Promises 34 to 38: value, owed, pay, paid, pass. */
public final class PaymentsTest {
    private static final int NONE = Songlinebench.NONE;
    private static final int EXTINGUISHES = Songlinebench.EXTINGUISHES;

    public static void main(String[] args) {
        value();
        weights();
        months();
        rounding();
        largest();
        tookByOthers();
        fortyActs();
        tookAtEachPlace();
        notOwed();
        pay();
        payRefused();
        shares();
        paid();
        pass();
        Due.end();
    }

    /** Peoples, each proved at the places 0 to 3, that hold those of their places; month 0. */
    private static Songlinebench bench(int... places) {
        Songlinebench x = new Songlinebench();
        for (int people = 0; people < places.length; people++) {
            x.people(Songlinebench.EITHER);
            x.person(NONE, NONE);
            x.root(people, people, true);
            x.explain(people, 0, 5000);
            for (int place = 0; place < 4; place++) {
                x.mark(people, place, 0, 9);
                x.mark(people, place, 0, 1);
            }
            if (places[people] != 0) {
                int claim = x.claim(people, places[people], 1);
                x.vote(people, claim, true);
                Due.due("register", 0, x.register(claim));
                Due.due("determine", places[people], x.determine(claim));
            }
        }
        return x;
    }

    private static void value() {
        Songlinebench x = new Songlinebench();
        Due.due("value(0, 7)", 0, x.value(0, 7));
        Due.due("value(15, 1000000)", 0, x.value(15, 1000000));
        Due.due("value(0, 0)", 7, x.value(0, 0));
        Due.refused("value(0, -1)", Due.ARGUMENT, () -> x.value(0, -1));
        Due.refused("value(0, 1000001)", Due.ARGUMENT, () -> x.value(0, 1000001));
        Due.refused("value(16, -1)", Due.INDEX, () -> x.value(16, -1));
        Due.refused("value(-1, 0)", Due.INDEX, () -> x.value(-1, 0));
        Due.due("value(0, 1)", 0, x.value(0, 1));
        Due.due("value(15, 1)", 1000000, x.value(15, 1));
    }

    private static void weights() {
        Songlinebench x = bench(1);
        x.value(0, 1000);
        int[] weights = {10, 15, 15, 20, 40};
        for (int right = 0; right < 5; right++) {
            int act = x.act(0, 1, 1 << right, EXTINGUISHES, NONE);
            Due.due("owed for the right " + right, weights[right] * 15L, x.owed(act));
        }
    }

    private static void months() {
        Songlinebench x = bench(1);
        x.value(0, 10000);
        x.pass(90);
        x.act(40, 1, 31, EXTINGUISHES, NONE);
        x.act(90, 1, 31, EXTINGUISHES, NONE);
        Due.due("owed after 50 months", 10000 + 1000 + 5000, x.owed(0));
        Due.due("owed for what was taken", 0, x.owed(1));
        x.pass(10);
        Due.due("owed after 60 months", 10000 + 1200 + 5000, x.owed(0));
    }

    private static void rounding() {
        Songlinebench x = bench(1);
        x.pass(600);
        x.pass(33);
        x.act(0, 1, 8, EXTINGUISHES, NONE);
        x.value(0, 4);
        Due.due("a base of 0.8", 0, x.owed(0));
        x.value(0, 19);
        Due.due("a base of 3.8", 3 + 3 + 1, x.owed(0));
        x.value(0, 999);
        Due.due("a base of 199.8", 199 + 251 + 99, x.owed(0));
    }

    private static void largest() {
        Songlinebench x = bench(15);
        for (int place = 0; place < 4; place++) {
            x.value(place, 1000000);
        }
        for (int time = 0; time < 8; time++) {
            x.pass(600);
        }
        x.pass(200);
        x.act(0, 65535, 31, EXTINGUISHES, NONE);
        Due.due("owed", 46000000, x.owed(0));
        Due.due("pay", 46000000, x.pay(0));
        Due.due("paid", 46000000, x.paid(0));
    }

    private static void tookByOthers() {
        Songlinebench x = bench(1);
        x.value(0, 1000);
        x.pass(10);
        int act = x.act(5, 1, 0b11111, EXTINGUISHES, NONE);
        Due.due("owed alone", 1500 + 10, x.owed(act));
        int same = x.act(5, 1, 0b00001, EXTINGUISHES, NONE);
        Due.due("another of the same month, with a higher number", 1510, x.owed(act));
        Due.due("another with a lower number took it", 0, x.owed(same));
        x.act(6, 1, 0b00010, EXTINGUISHES, NONE);
        x.act(4, 1, 0b00010, Songlinebench.SUSPENDS, 5000);
        x.act(4, 1, 0b00010, Songlinebench.YIELD, NONE);
        x.act(4, 2, 0b00010, EXTINGUISHES, NONE);
        Due.due("others that took nothing ahead of it there", 1510, x.owed(act));
        int earlier = x.act(4, 1, 0b10001, EXTINGUISHES, NONE);
        Due.due("an earlier one took half", 750 + 5, x.owed(act));
        x.voids(earlier, true);
        Due.due("the earlier one void", 1510, x.owed(act));
        x.voids(earlier, false);
        Due.due("the earlier one validated", 755, x.owed(act));
        x.pay(earlier);
        Due.due("the earlier one paid for", 755, x.owed(act));
        x.giveUp(earlier);
        Due.due("the earlier one given up", 1510, x.owed(act));
    }

    private static void fortyActs() {
        Songlinebench x = bench(1);
        x.value(0, 1000);
        for (int act = 0; act < 40; act++) {
            x.act(0, 1, act < 39 ? 30 : 31, EXTINGUISHES, NONE);
        }
        Due.due("owed for the first", 900 + 450, x.owed(0));
        Due.due("owed for the last but one", 0, x.owed(38));
        Due.due("owed for the last", 100 + 50, x.owed(39));
    }

    private static void tookAtEachPlace() {
        Songlinebench x = bench(0b0111);
        x.value(0, 100);
        x.value(1, 200);
        x.value(2, 400);
        x.value(3, 800);
        x.act(0, 0b0010, 0b10000, EXTINGUISHES, NONE);
        x.act(0, 0b1011, 0b11000, EXTINGUISHES, NONE);
        Due.due("owed for 0 and 1", 60 + 30 + 40 + 20, x.owed(1));
        Due.due("owed for 1", 80 + 40, x.owed(0));
    }

    private static void notOwed() {
        Songlinebench x = bench(1);
        Due.refused("owed(0) without acts", Due.INDEX, () -> x.owed(0));
        x.value(0, 1000);
        x.value(1, 1000);
        x.act(0, 1, 31, Songlinebench.SUSPENDS, 9);
        x.act(0, 1, 31, Songlinebench.YIELD, NONE);
        x.act(0, 2, 31, EXTINGUISHES, NONE);
        x.act(0, 1, 31, EXTINGUISHES, NONE);
        Due.due("owed for one that SUSPENDS", 0, x.owed(0));
        Due.due("owed for one that makes YIELD", 0, x.owed(1));
        Due.due("owed for a place that nobody holds", 0, x.owed(2));
        Due.due("owed", 1500, x.owed(3));
        x.voids(3, true);
        Due.due("owed for one void", 0, x.owed(3));
        x.voids(3, false);
        Due.due("owed for one validated", 1500, x.owed(3));
        x.value(0, 0);
        Due.due("owed for a place of no value", 0, x.owed(3));
        x.value(0, 10);
        x.giveUp(3);
        Due.due("owed for one given up", 0, x.owed(3));
        Due.refused("owed(4)", Due.INDEX, () -> x.owed(4));
        Due.refused("owed(-1)", Due.INDEX, () -> x.owed(-1));
    }

    private static void pay() {
        Songlinebench x = bench(1);
        x.value(0, 1000);
        x.act(0, 1, 1, EXTINGUISHES, NONE);
        x.act(0, 1, 3, EXTINGUISHES, NONE);
        Due.due("pay(0)", 150, x.pay(0));
        Due.due("owed then", 0, x.owed(0));
        Due.refused("pay(0) again", Due.STATE, () -> x.pay(0));
        Due.due("paid(0)", 150, x.paid(0));
        x.voids(0, true);
        x.voids(0, false);
        Due.refused("pay(0) of one validated", Due.STATE, () -> x.pay(0));
        Due.due("pay(1)", 225, x.pay(1));
        Due.due("paid(0)", 375, x.paid(0));
    }

    private static void payRefused() {
        Songlinebench x = bench(1);
        Due.refused("pay(0) without acts", Due.INDEX, () -> x.pay(0));
        x.act(0, 1, 1, EXTINGUISHES, NONE);
        x.act(0, 1, 2, Songlinebench.SUSPENDS, 9);
        x.act(0, 1, 4, EXTINGUISHES, NONE);
        x.act(0, 2, 4, EXTINGUISHES, NONE);
        Due.refused("pay(0) of a place of no value", Due.STATE, () -> x.pay(0));
        x.value(0, 1000);
        x.value(1, 1000);
        Due.refused("pay of one that SUSPENDS", Due.STATE, () -> x.pay(1));
        x.voids(0, true);
        Due.refused("pay of one void", Due.STATE, () -> x.pay(0));
        x.giveUp(2);
        Due.refused("pay of one given up", Due.STATE, () -> x.pay(2));
        Due.refused("pay for a place that nobody holds", Due.STATE, () -> x.pay(3));
        Due.refused("pay(4)", Due.INDEX, () -> x.pay(4));
        Due.refused("pay(-1)", Due.INDEX, () -> x.pay(-1));
        Due.due("paid, as the refused changed nothing", 0, x.paid(0));
        x.voids(0, false);
        Due.due("pay, as the refused changed nothing", 150, x.pay(0));
    }

    private static void shares() {
        Songlinebench x = bench(0, 0b011, 0b001, 0b101);
        x.value(0, 1000);
        x.value(1, 30);
        x.value(2, 50);
        x.act(0, 0b1111, 0b01100, EXTINGUISHES, NONE);
        long first = 350 + 175;
        long second = 10 + 5;
        long third = 17 + 8;
        Due.due("pay", first + second + third, x.pay(0));
        Due.due("paid(0), who holds nothing", 0, x.paid(0));
        Due.due("paid(1)", 175 + 15, x.paid(1));
        Due.due("paid(2)", 175, x.paid(2));
        Due.due("paid(3)", 175 + 25, x.paid(3));
        x.value(0, 110);
        x.act(0, 0b0001, 0b00001, EXTINGUISHES, NONE);
        Due.due("pay 16 to three", 16, x.pay(1));
        Due.due("paid(1), the lowest of them", 190 + 6, x.paid(1));
        Due.due("paid(2)", 175 + 5, x.paid(2));
        Due.due("paid(3)", 200 + 5, x.paid(3));
    }

    private static void paid() {
        Songlinebench x = new Songlinebench();
        Due.refused("paid(0) without peoples", Due.INDEX, () -> x.paid(0));
        x.people(0);
        Due.due("paid(0)", 0, x.paid(0));
        Due.refused("paid(1)", Due.INDEX, () -> x.paid(1));
        Due.refused("paid(-1)", Due.INDEX, () -> x.paid(-1));
    }

    private static void pass() {
        Songlinebench x = new Songlinebench();
        Due.refused("pass(0)", Due.ARGUMENT, () -> x.pass(0));
        Due.refused("pass(-1)", Due.ARGUMENT, () -> x.pass(-1));
        Due.refused("pass(601)", Due.ARGUMENT, () -> x.pass(601));
        Due.due("pass(1)", 1, x.pass(1));
        Due.due("pass(600)", 601, x.pass(600));
        for (int time = 2; time <= 8; time++) {
            Due.due("pass(600)", 600 * time + 1, x.pass(600));
        }
        Due.refused("pass(200) from 4801", Due.STATE, () -> x.pass(200));
        Due.refused("pass(601) from 4801", Due.ARGUMENT, () -> x.pass(601));
        Due.due("pass(199)", 5000, x.pass(199));
        Due.refused("pass(1) from 5000", Due.STATE, () -> x.pass(1));
    }
}
