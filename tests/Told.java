import java.math.BigInteger;
import java.util.ArrayList;
import java.util.List;

/** What an object tells of itself, gathered by its own answers. */
final class Told {
    private Told() {
    }

    /** All that acts can change, in some 60 calls, but for house(2). */
    static String stateOf(Raywalk walk) {
        StringBuilder told = new StringBuilder();
        for (int cell = 0; cell < 8; cell++) {
            told.append(walk.across(cell)).append(',').append(walk.up(cell)).append(',').append(walk.signs(cell)).append("; ");
        }
        for (int number = 0; number < walk.places(); number++) {
            told.append(walk.place(number, false)).append(',').append(walk.place(number, true)).append("; ");
        }
        told.append("centre ").append(walk.centreAt(false)).append(',').append(walk.centreAt(true));
        told.append(" round ").append(walk.roundText()).append(" hull ").append(walk.hullText());
        told.append(" acts ").append(walk.house(0)).append(',').append(walk.house(1));
        return told.append(" knocks ").append(walk.house(3)).toString();
    }

    static String stepOf(Raywalk walk, int cell) {
        return step(walk.across(cell), walk.up(cell), walk.signs(cell));
    }

    static String step(int across, int up, int signs) {
        return "(" + across + ", " + up + ") signs " + signs;
    }

    /** The numbers of promise 44, in its order, in some 190 calls. */
    static List<Integer> valuesOf(Raywalk walk) {
        List<Integer> values = new ArrayList<>();
        for (int cell = 0; cell < 8; cell++) {
            values.addAll(List.of(walk.across(cell), walk.up(cell), walk.signs(cell), walk.upper(cell), walk.lower(cell),
                    walk.grade(cell, 29), walk.eighth(cell), walk.find(cell, false)));
        }
        for (int one = 0; one < 8; one++) {
            for (int other = one + 1; other < 8; other++) {
                values.addAll(List.of(walk.order(one, other, 0), walk.like(one, other) ? 1 : 0, walk.side(one, other)));
            }
        }
        values.add(walk.places());
        for (int number = 0; number < walk.places(); number++) {
            values.addAll(List.of(walk.place(number, false), walk.place(number, true)));
        }
        values.addAll(List.of(walk.centreAt(false), walk.centreAt(true), walk.roundCount()));
        values.addAll(numbersIn(walk.roundText()));
        values.addAll(List.of(walk.isStar() ? 1 : 0, walk.starArea(), walk.hullCount()));
        values.addAll(numbersIn(walk.hullText()));
        values.addAll(List.of(walk.hullArea(), walk.rounds()));
        values.addAll(List.of(walk.house(0), walk.house(1), walk.house(2), walk.house(3), walk.isSound() ? 1 : 0));
        return values;
    }

    /** The checksum without any wrap-around. */
    static BigInteger sumOf(List<Integer> values) {
        BigInteger sum = BigInteger.valueOf(7682);
        for (int value : values) {
            sum = sum.multiply(BigInteger.valueOf(31)).add(BigInteger.valueOf(value));
        }
        return sum;
    }

    private static List<Integer> numbersIn(String text) {
        List<Integer> numbers = new ArrayList<>();
        if (!text.isEmpty()) {
            for (String number : text.split(" ")) {
                numbers.add(Integer.valueOf(number));
            }
        }
        return numbers;
    }
}
