/** Everything that an office answers without being changed, as one text, to compare two moments by. */
final class Picture {
    private Picture() {
    }

    /** The state, the reported error and the output text. */
    static String of(KitePermits k) {
        StringBuilder text = new StringBuilder(state(k));
        text.append("error ").append(k.errorCode()).append(' ').append(k.errorPosition()).append("\noutput ");
        for (int i = 0; k.outputByte(i) != KitePermits.NONE; i++) {
            text.append((char) k.outputByte(i));
        }
        return text.append('\n').toString();
    }

    /** The state that undo and the snapshots concern. */
    static String state(KitePermits k) {
        StringBuilder text = new StringBuilder();
        line(text, "field", k.width(), k.height(), k.fee(), k.fine());
        for (int zone = 0; zone < k.zoneCount(); zone++) {
            for (int hour = 0; hour < 6; hour++) {
                line(text, "wind", zone, hour, k.windDirection(zone, hour), k.windForce(zone, hour));
            }
        }
        for (int colour = 0; colour < k.colourCount(); colour++) {
            line(text, "colour", k.quota(colour), k.quotaUsed(colour, k.hour()));
        }
        for (int i = 0; i < k.kiteCount(); i++) {
            line(text, "kite", k.anchorX(i), k.anchorY(i), k.stringLength(i), k.colourOf(i), k.knots(i), k.purse(i),
                    k.stateOf(i), k.tangles(i));
        }
        guilty(text, k);
        for (int i = 0; i < k.permitCount(); i++) {
            line(text, "permit", k.permitKite(i), k.permitStart(i), k.permitDuration(i));
        }
        line(text, "hour", k.hour(), k.verdictsIn(12));
        line(text, "coins", k.officeCoins(), k.coinError(), k.permittedCrossings());
        return text.append(k.meanReach()).append(' ').append(k.tangledShare()).append('\n').toString();
    }

    /** The order of the launches shows in who would be guilty. */
    private static void guilty(StringBuilder text, KitePermits k) {
        for (int i = 0; i < k.kiteCount(); i++) {
            for (int j = i + 1; j < k.kiteCount(); j++) {
                if (k.stateOf(i) == 1 && k.stateOf(j) == 1) {
                    line(text, "guilty", i, j, k.guiltyKite(i, j));
                }
            }
        }
    }

    private static void line(StringBuilder text, String what, int... numbers) {
        text.append(what);
        for (int number : numbers) {
            text.append(' ').append(number);
        }
        text.append('\n');
    }
}
